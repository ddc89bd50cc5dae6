theorem ld_cnt {ls : List Lk} {x : Int64} {m d : Nat} (hs : LSt x ls (ldM m d) ls.length) (hn : ls.length ≤ 40) (hm : m < 64) (hd : d < 7) : pc6 x = lcN ls m d := by
  rw [hs.cnt hn, show ldM m d = ldB (sb m d) d from funext (ldM_eq hm hd)]; rfl
theorem lst_pts {ls : List Lk} {x : Int64} {m : Nat} (hs : LSt x ls (lvB (m : Int)) ls.length) : nfst (Cn (EB ls x)) 16 = pts ls m := nfst_c (fun u v _ _ => lst_CM hs u v)
theorem mxA_b {g : Nat → Nat} {c B : Nat} (hg : ∀ k, k < 7 → g k ≤ B) : ∀ n, n ≤ 7 → c ≤ mxA c g n ∧ (mxA c g n ≤ c ∨ mxA c g n ≤ B)
  | 0, _ => ⟨Nat.le_refl _, Or.inl (Nat.le_refl _)⟩
  | n + 1, h => by
    obtain ⟨h1, h2⟩ := mxA_b (c := c) hg n (by omega)
    have h3 := hg n (by omega)
    show c ≤ (if mxA c g n < g n then g n else mxA c g n) ∧ ((if mxA c g n < g n then g n else mxA c g n) ≤ c ∨ (if mxA c g n < g n then g n else mxA c g n) ≤ B)
    by_cases q : mxA c g n < g n
    · rw [if_pos q]; exact ⟨by omega, Or.inr h3⟩
    · rw [if_neg q]; exact ⟨h1, h2⟩
theorem sb_6 : ∀ m, m < 64 → sb m 6 = m := by decide +kernel
theorem mx2_6 {f : Nat → Nat → Nat} (hf : ∀ m d, m < 64 → d < 7 → f m d ≤ f m 6) : ∀ n, n ≤ 64 → mx2 f n = maxN (fun m => f m 6) n
  | 0, _ => rfl
  | n + 1, h => by
    show mxA (mx2 f n) (atB f n) 7 = if maxN (fun m => f m 6) n < f n 6 then f n 6 else maxN (fun m => f m 6) n
    rw [← mx2_6 hf n (by omega)]
    have hg : ∀ k, k < 7 → atB f n k ≤ f n 6 := fun k hk => by
      unfold atB
      split
      · exact hf n k (by omega) hk
      · exact Nat.zero_le _
    obtain ⟨h1, h2⟩ := mxA_b (c := mx2 f n) hg 6 (by omega)
    have h6 : atB f n 6 = f n 6 := if_pos (sb_6 n (by omega))
    show (if mxA (mx2 f n) (atB f n) 6 < atB f n 6 then atB f n 6 else mxA (mx2 f n) (atB f n) 6) = _
    rw [h6]
    split <;> split <;> omega
theorem max_min {p : Nat → Nat} : ∀ n, maxN (fun m => 16 - p m) n = 16 - minN p n
  | 0 => rfl
  | n + 1 => by
    have h := minN_le p n
    show (if maxN (fun m => 16 - p m) n < 16 - p n then 16 - p n else maxN (fun m => 16 - p m) n) = 16 - (if p n < minN p n then p n else minN p n)
    rw [max_min n]
    split <;> split <;> omega
theorem nfst_anti {C D : Nat → Nat → Prop} {n : Nat} (h : ∀ x y, C x y → D x y) : nfst D n ≤ nfst C n := nfst_mono h
theorem cv_6 {m d : Nat} (hm : m < 64) (hd : d < 7) {y : Lk} (h : cvB (sb m d) (sl d) y = true) : cvB (sb m 6) (sl 6) y = true := by
  have key : ∀ m, m < 64 → ∀ d, d < 7 → sb m d ≤ sb m 6 ∧ sb m 6 + sl 6 ≤ sb m d + sl d := by decide +kernel
  have := key m hm d hd
  rw [cvB_iff] at h ⊢
  omega
theorem pS_6 (ls : List Lk) {m d : Nat} (hm : m < 64) (hd : d < 7) : pS ls m 6 ≤ pS ls m d := nfst_mono (fun u v q => q.mono (fun e he => by
  obtain ⟨k, y, h1, h2, h3, h4⟩ := EK_mem.mp he
  exact EK_mem.mpr ⟨k, y, h1, h2, cv_6 hm hd h3, h4⟩))
theorem pS_pts (ls : List Lk) {m : Nat} (hm : m < 64) : pS ls m 6 = pts ls m := nfst_c (fun u v _ _ => Cn.set (fun e => by
  unfold CV
  rw [EK_mem, EK_mem]
  have hc : ∀ k y, cvP m 6 k y = lvA m k y := fun k y => by
    show cvB (sb m 6) (sl 6) y = lvB (m : Int) y
    rw [sb_6 m hm, Bool.eq_iff_iff, cvB_iff, lvB_iff, show sl 6 = 1 from rfl]
    omega
  constructor
  · rintro ⟨k, y, h1, h2, h3, h4⟩; exact ⟨k, y, h1, h2, by rw [← hc]; exact h3, h4⟩
  · rintro ⟨k, y, h1, h2, h3, h4⟩; exact ⟨k, y, h1, h2, by rw [hc]; exact h3, h4⟩) u v)
theorem mx_st (ls : List Lk) : mx2 (stN ls) 64 = 16 - minN (pts ls) 64 := by
  rw [mx2_6 (f := stN ls) (fun m d hm hd => by
    have := pS_6 ls hm hd
    show 16 - pS ls m d ≤ 16 - pS ls m 6
    omega) 64 (Nat.le_refl _), ← max_min]
  refine maxN_c (fun k hk => ?_)
  show 16 - pS ls k 6 = 16 - pts ls k
  rw [pS_pts ls hk]
theorem mx_i (ls : List Lk) : nI 16 - nI (minN (pts ls) 64) = nI (mx2 (stN ls) 64) := by
  rw [mx_st, pk_sub (minN_le _ _)]
section SMod6
variable {h h' : g_H} {a : Nat} {ls : List Lk} {Q : Option Value → g_H → Prop}
theorem l1_X7_ofSpans {v : Int32} {d c0 e0 : Nat} (hV : VQ h a ls) (hd : d < 7) (K : J m_X7_ofSpans 5 0 0 0 0 62 [some (.ref a), some (.int v), some (.int (nI (c0 + sumN (fun m => atB (mdN ls) m d) 64))), some (.int (nI (e0 + sumN (fun m => atB (lcN ls) m d) 64))), some (.int (nI d)), some (.int (nI 64))] [] h Q) : ∀ (t m c e : Nat), 64 - m < t → m ≤ 64 → (m < 64 → sb m d = m) → c = c0 + sumN (fun m => atB (mdN ls) m d) m → e = e0 + sumN (fun m => atB (lcN ls) m d) m → J m_X7_ofSpans 5 0 0 0 0 17 [some (.ref a), some (.int v), some (.int (nI c)), some (.int (nI e)), some (.int (nI d)), some (.int (nI m))] [] h Q := by
  intro t
  induction t with
  | zero => intro m c e ht; omega
  | succ t ih =>
    intro m c e ht hm hs hc he
    have hl := sl_64 d hd
    have hn40 := hV.len
    obtain ⟨fs0, hO⟩ := hV.o
    have hB := hV.bo
    refine J_iload dX7_ofSpans_17 rfl ?_
    refine J_bipush (x := 64) dX7_ofSpans_19 (by decide) ?_
    refine J_icmp_ge (tgt := 62) dX7_ofSpans_21 (by decide) (fun c21 => ?_) (fun c21 => ?_)
    · have c21 := (nI_leI (a := 64) (b := m) (by omega) (by omega)).mp c21
      obtain rfl : m = 64 := by omega
      subst hc
      subst he
      exact K
    · have c21 : m < 64 := Nat.not_le.mp (fun q => c21 ((nI_leI (a := 64) (b := m) (by omega) (by omega)).mpr q))
      refine J_iload_n dX7_ofSpans_24 rfl ?_
      refine J_aload_n dX7_ofSpans_25 rfl ?_
      refine J_iload dX7_ofSpans_26 rfl ?_
      refine J_iload dX7_ofSpans_28 rfl ?_
      refine J_callV (As := [_, _]) (rest := [_]) (M' := m_X7_madeAt) dX7_ofSpans_30 ml_RX7_179 gm_X7_madeAt gv_X7_madeAt hO hB rfl rfl rfl (Nat.le_of_ble_eq_true rfl) (by decide) ⟨rfl, rfl, by decide, by decide⟩ (s_X7_madeAt hV c21 hd (fun r hr => ?_))
      subst hr
      refine J_iadd dX7_ofSpans_33 ?_
      rw [nI_add]
      refine J_istore_n (L' := [_, _, _, _, _, _]) dX7_ofSpans_34 (by decide) rfl ?_
      refine J_iload_n dX7_ofSpans_35 rfl ?_
      refine J_aload_n dX7_ofSpans_36 rfl ?_
      refine J_iload dX7_ofSpans_37 rfl ?_
      refine J_iload dX7_ofSpans_39 rfl ?_
      refine J_callV (As := [_, _]) (rest := [_]) (M' := m_X7_laidAt) dX7_ofSpans_41 ml_RX7_176 gm_X7_laidAt gv_X7_laidAt hO hB rfl rfl rfl (Nat.le_of_ble_eq_true rfl) (by decide) ⟨rfl, rfl, by decide, by decide⟩ (s_X7_laidAt hV c21 hd (fun x hx => ?_))
      refine J_callS (As := [_]) (rest := [_]) (M' := m_X7_bits) dX7_ofSpans_44 ml_RX7_110 gm_X7_bits sm_yX7_bits rfl rfl (Nat.le_of_ble_eq_true rfl) (by decide) ⟨rfl, rfl, by decide, by decide⟩ (s_X7_bits (fun r2 hr2 => ?_))
      rw [ld_cnt hx hn40 c21 hd] at hr2
      subst hr2
      refine J_iadd dX7_ofSpans_47 ?_
      rw [nI_add]
      refine J_istore_n (L' := [_, _, _, _, _, _]) dX7_ofSpans_48 (by decide) rfl ?_
      refine J_iload dX7_ofSpans_49 rfl ?_
      refine J_iload dX7_ofSpans_51 rfl ?_
      refine J_callS (As := [_]) (rest := [_]) (M' := m_X7_spanLong) dX7_ofSpans_53 ml_RX7_64 gm_X7_spanLong sm_yX7_spanLong rfl rfl (Nat.le_of_ble_eq_true rfl) (by decide) ⟨rfl, rfl, by decide, by decide⟩ (s_X7_spanLong hd (fun r3 hr3 => ?_))
      subst hr3
      refine J_iadd dX7_ofSpans_56 ?_
      rw [nI_add]
      refine J_istore (L' := [_, _, _, _, _, _]) dX7_ofSpans_57 (by decide) rfl ?_
      refine J_goto (tgt := 17) dX7_ofSpans_59 (by decide) ?_
      have hs0 := hs c21
      have hg := sb_g2 d hd m c21 hs0
      exact ih (m + sl d) _ _ (by omega) hg.2 (fun _ => hg.1) (by rw [sum_step (mdN ls) c21 hd hs0]; omega) (by rw [sum_step (lcN ls) c21 hd hs0]; omega)
theorem l2_X7_ofSpans {v : Int32} (hV : VQ h a ls) (hQ : ∀ r, r = ci (v = 1) (nI (sp2 (mdN ls))) (nI (sp2 (lcN ls)) - nI (sp2 (mdN ls))) → Q (some (.int r)) h) : ∀ (t d c e : Nat), 7 - d < t → d ≤ 7 → c = sumN (fun d => sumN (fun m => atB (mdN ls) m d) 64) d → e = sumN (fun d => sumN (fun m => atB (lcN ls) m d) 64) d → J m_X7_ofSpans 5 0 0 0 0 7 [some (.ref a), some (.int v), some (.int (nI c)), some (.int (nI e)), some (.int (nI d)), none] [] h Q := by
  intro t
  induction t with
  | zero => intro d c e ht; omega
  | succ t ih =>
    intro d c e ht hd hc he
    refine J_iload dX7_ofSpans_7 rfl ?_
    refine J_bipush (x := 6) dX7_ofSpans_9 (by decide) ?_
    refine J_icmp_gt (tgt := 68) dX7_ofSpans_11 (by decide) (fun c11 => ?_) (fun c11 => ?_)
    · have c11 : nI 6 < nI d := c11
      rw [nI_ltI (by omega) (by omega)] at c11
      obtain rfl : d = 7 := by omega
      have hc : c = sp2 (mdN ls) := by rw [hc, sp2_eq]; rfl
      have he : e = sp2 (lcN ls) := by rw [he, sp2_eq]; rfl
      rw [hc, he]
      refine J_iload_n dX7_ofSpans_68 rfl ?_
      refine J_iconst (x := 1) dX7_ofSpans_69 (by decide) ?_
      refine J_icmp_ne (tgt := 77) dX7_ofSpans_70 (by decide) (fun c70 => ?_) (fun c70 => ?_)
      · refine J_iload_n dX7_ofSpans_77 rfl ?_
        refine J_iload_n dX7_ofSpans_78 rfl ?_
        refine J_isub dX7_ofSpans_79 ?_
        exact J_iret dX7_ofSpans_80 rfl ⟨rfl, Nat.le_refl _⟩ (hQ _ (by rw [ci_f c70]))
      · refine J_iload_n dX7_ofSpans_73 rfl ?_
        refine J_goto (tgt := 80) dX7_ofSpans_74 (by decide) ?_
        exact J_iret dX7_ofSpans_80 rfl ⟨rfl, Nat.le_refl _⟩ (hQ _ (by rw [ci_t c70]))
    · have c11 : d < 7 := by
        have c11 : ¬ nI 6 < nI d := c11
        rw [nI_ltI (by omega) (by omega)] at c11; omega
      refine J_iconst (x := 0) dX7_ofSpans_14 (by decide) ?_
      refine J_istore (L' := [_, _, _, _, _, _]) dX7_ofSpans_15 (by decide) rfl ?_
      refine l1_X7_ofSpans (c0 := c) (e0 := e) hV c11 ?_ 65 0 c e (by omega) (by omega) (fun _ => Nat.le_zero.mp (sb_le 0 d)) rfl rfl
      refine J_iinc (L' := [_, _, _, _, _, _]) dX7_ofSpans_62 rfl (nI_i1 d) (by decide) rfl ?_
      refine J_goto (tgt := 7) dX7_ofSpans_65 (by decide) ?_
      refine J_drop [5] rfl ?_
      exact ih (d + 1) _ _ (by omega) (by omega) (by rw [hc]; rfl) (by rw [he]; rfl)
theorem s_X7_ofSpans {v : Int32} (hV : VQ h a ls) (hQ : ∀ r, r = ci (v = 1) (nI (sp2 (mdN ls))) (nI (sp2 (lcN ls)) - nI (sp2 (mdN ls))) → Q (some (.int r)) h) : MJ m_X7_ofSpans 5 0 0 [.ref a, .int v] h Q := by
  refine MJ_of_J (L := [some (.ref a), some (.int v), none, none, none, none]) (by decide +kernel) rfl (Nat.le_of_ble_eq_true rfl) rfl ?_
  refine J_iconst (x := 0) dX7_ofSpans_0 (by decide) ?_
  refine J_istore_n (L' := [_, _, _, _, _, _]) dX7_ofSpans_1 (by decide) rfl ?_
  refine J_iconst (x := 0) dX7_ofSpans_2 (by decide) ?_
  refine J_istore_n (L' := [_, _, _, _, _, _]) dX7_ofSpans_3 (by decide) rfl ?_
  refine J_iconst (x := 0) dX7_ofSpans_4 (by decide) ?_
  refine J_istore (L' := [_, _, _, _, _, _]) dX7_ofSpans_5 (by decide) rfl ?_
  exact l2_X7_ofSpans hV hQ 8 0 0 0 (by omega) (by omega) rfl rfl
theorem l_X7_ofMoments {v : Int32} (hV : VQ h a ls) (hQ : ∀ r, r = ci (v = 4) (nI (sumN (omN ls) 64)) (ci (v = 5) (nI (maxN (pts ls) 64)) (nI (minN (pts ls) 64))) → Q (some (.int r)) h) : ∀ (t m o c e : Nat), 64 - m < t → m ≤ 64 → o = sumN (omN ls) m → c = maxN (pts ls) m → e = minN (pts ls) m → J m_X7_ofMoments 3 0 0 0 0 11 [some (.ref a), some (.int v), some (.int (nI o)), some (.int (nI c)), some (.int (nI e)), some (.int (nI m)), none, none, none] [] h Q := by
  intro t
  induction t with
  | zero => intro m o c e ht; omega
  | succ t ih =>
    intro m o c e ht hm ho hc he
    have s1 : sumN (omN ls) (m + 1) = sumN (omN ls) m + omN ls m := rfl
    have s2 : maxN (pts ls) (m + 1) = if maxN (pts ls) m < pts ls m then pts ls m else maxN (pts ls) m := rfl
    have s3 : minN (pts ls) (m + 1) = if pts ls m < minN (pts ls) m then pts ls m else minN (pts ls) m := rfl
    have b1 : pts ls m ≤ 16 := nfst_le _ _
    have b2 : c ≤ 16 := by rw [hc]; exact maxN_le (fun k => nfst_le _ _) m
    have b3 : e ≤ 16 := by rw [he]; exact minN_le _ m
    obtain ⟨fs0, hO⟩ := hV.o
    have hB := hV.bo
    refine J_iload dX7_ofMoments_11 rfl ?_
    refine J_bipush (x := 64) dX7_ofMoments_13 (by decide) ?_
    refine J_icmp_ge (tgt := 86) dX7_ofMoments_15 (by decide) (fun c15 => ?_) (fun c15 => ?_)
    · have c15 := (nI_leI (a := 64) (b := m) (by omega) (by omega)).mp c15
      obtain rfl : m = 64 := by omega
      rw [ho, hc, he]
      refine J_iload_n dX7_ofMoments_86 rfl ?_
      refine J_iconst (x := 4) dX7_ofMoments_87 (by decide) ?_
      refine J_icmp_ne (tgt := 95) dX7_ofMoments_88 (by decide) (fun c88 => ?_) (fun c88 => ?_)
      · refine J_iload_n dX7_ofMoments_95 rfl ?_
        refine J_iconst (x := 5) dX7_ofMoments_96 (by decide) ?_
        refine J_icmp_ne (tgt := 104) dX7_ofMoments_97 (by decide) (fun c97 => ?_) (fun c97 => ?_)
        · refine J_iload dX7_ofMoments_104 rfl ?_
          exact J_iret dX7_ofMoments_106 rfl ⟨rfl, Nat.le_refl _⟩ (hQ _ (by rw [ci_f c88, ci_f c97]))
        · refine J_iload_n dX7_ofMoments_100 rfl ?_
          refine J_goto (tgt := 106) dX7_ofMoments_101 (by decide) ?_
          exact J_iret dX7_ofMoments_106 rfl ⟨rfl, Nat.le_refl _⟩ (hQ _ (by rw [ci_f c88, ci_t c97]))
      · refine J_iload_n dX7_ofMoments_91 rfl ?_
        refine J_goto (tgt := 106) dX7_ofMoments_92 (by decide) ?_
        exact J_iret dX7_ofMoments_106 rfl ⟨rfl, Nat.le_refl _⟩ (hQ _ (by rw [ci_t c88]))
    · have c15 : m < 64 := Nat.not_le.mp (fun q => c15 ((nI_leI (a := 64) (b := m) (by omega) (by omega)).mpr q))
      refine J_aload_n dX7_ofMoments_18 rfl ?_
      refine J_iload dX7_ofMoments_19 rfl ?_
      refine J_callV (As := [_]) (rest := []) (M' := m_X7_livingAt) dX7_ofMoments_21 ml_RX7_106 gm_X7_livingAt gv_X7_livingAt hO hB rfl rfl rfl (Nat.le_of_ble_eq_true rfl) (by decide) ⟨rfl, rfl, by decide, by decide⟩ (s_X7_livingAt hV c15 (fun x hx => ?_))
      refine J_lstore (L' := [_, _, _, _, _, _, _, _, _]) dX7_ofMoments_24 (by decide) rfl ?_
      refine J_aload_n dX7_ofMoments_26 rfl ?_
      refine J_lload dX7_ofMoments_27 rfl ?_
      refine J_callV (As := [_]) (rest := []) (M' := m_X7_parts) dX7_ofMoments_29 ml_RX7_79 gm_X7_parts gv_X7_parts hO hB rfl rfl rfl (Nat.le_of_ble_eq_true rfl) (by decide) ⟨rfl, rfl, by decide, by decide⟩ (s_X7_parts hV (fun r hr => ?_))
      rw [lst_pts hx] at hr
      subst hr
      have hom := lst_OM hx
      refine J_istore (L' := [_, _, _, _, _, _, _, _, _]) dX7_ofMoments_32 (by decide) rfl ?_
      refine J_iload_n dX7_ofMoments_34 rfl ?_
      refine J_aload_n dX7_ofMoments_35 rfl ?_
      refine J_lload dX7_ofMoments_36 rfl ?_
      refine J_callV (As := [_]) (rest := [_]) (M' := m_X7_isOdd) dX7_ofMoments_38 ml_RX7_159 gm_X7_isOdd gv_X7_isOdd hO hB rfl rfl rfl (Nat.le_of_ble_eq_true rfl) (by decide) ⟨rfl, rfl, by decide, by decide⟩ (s_X7_isOdd hV (fun r2 hr2 => ?_))
      refine J_if_eq (tgt := 48) dX7_ofMoments_41 (by decide) (fun c41 => ?_) (fun c41 => ?_)
      · refine J_iconst (x := 0) dX7_ofMoments_48 (by decide) ?_
        refine J_iadd dX7_ofMoments_49 ?_
        refine J_istore_n (L' := [_, _, _, _, _, _, _, _, _]) dX7_ofMoments_50 (by decide) rfl ?_
        refine J_iload dX7_ofMoments_51 rfl ?_
        refine J_iload_n dX7_ofMoments_53 rfl ?_
        refine J_icmp_le (tgt := 62) dX7_ofMoments_54 (by decide) (fun c54 => ?_) (fun c54 => ?_)
        · refine J_iload_n dX7_ofMoments_62 rfl ?_
          refine J_istore_n (L' := [_, _, _, _, _, _, _, _, _]) dX7_ofMoments_63 (by decide) rfl ?_
          refine J_iload dX7_ofMoments_64 rfl ?_
          refine J_iload dX7_ofMoments_66 rfl ?_
          refine J_icmp_ge (tgt := 76) dX7_ofMoments_68 (by decide) (fun c68 => ?_) (fun c68 => ?_)
          · refine J_iload dX7_ofMoments_76 rfl ?_
            refine J_istore (L' := [_, _, _, _, _, _, _, _, _]) dX7_ofMoments_78 (by decide) rfl ?_
            refine J_iinc (L' := [_, _, _, _, _, _, _, _, _]) dX7_ofMoments_80 rfl (nI_i1 m) (by decide) rfl ?_
            refine J_goto (tgt := 11) dX7_ofMoments_83 (by decide) ?_
            refine J_drop [6, 7, 8] rfl ?_
            rw [show nI o + 0 = nI o from nI_add o 0]
            exact ih (m + 1) _ _ _ (by omega) (by omega) (by rw [s1, ho, show omN ls m = 0 from oneI_f (fun q => (bI_0 hr2).mp c41 (hom.mpr q))]; rfl) (by rw [s2, ← hc, if_neg (fun q => by have c54 := (nI_leI (by omega) (by omega)).mp c54; omega)]) (by rw [s3, ← he, if_neg (fun q => by have c68 := (nI_leI (by omega) (by omega)).mp c68; omega)])
          · refine J_iload dX7_ofMoments_71 rfl ?_
            refine J_goto (tgt := 78) dX7_ofMoments_73 (by decide) ?_
            refine J_istore (L' := [_, _, _, _, _, _, _, _, _]) dX7_ofMoments_78 (by decide) rfl ?_
            refine J_iinc (L' := [_, _, _, _, _, _, _, _, _]) dX7_ofMoments_80 rfl (nI_i1 m) (by decide) rfl ?_
            refine J_goto (tgt := 11) dX7_ofMoments_83 (by decide) ?_
            refine J_drop [6, 7, 8] rfl ?_
            rw [show nI o + 0 = nI o from nI_add o 0]
            exact ih (m + 1) _ _ _ (by omega) (by omega) (by rw [s1, ho, show omN ls m = 0 from oneI_f (fun q => (bI_0 hr2).mp c41 (hom.mpr q))]; rfl) (by rw [s2, ← hc, if_neg (fun q => by have c54 := (nI_leI (by omega) (by omega)).mp c54; omega)]) (by rw [s3, ← he, if_pos (by rw [nI_leI (by omega) (by omega)] at c68; omega)])
        · refine J_iload dX7_ofMoments_57 rfl ?_
          refine J_goto (tgt := 63) dX7_ofMoments_59 (by decide) ?_
          refine J_istore_n (L' := [_, _, _, _, _, _, _, _, _]) dX7_ofMoments_63 (by decide) rfl ?_
          refine J_iload dX7_ofMoments_64 rfl ?_
          refine J_iload dX7_ofMoments_66 rfl ?_
          refine J_icmp_ge (tgt := 76) dX7_ofMoments_68 (by decide) (fun c68 => ?_) (fun c68 => ?_)
          · refine J_iload dX7_ofMoments_76 rfl ?_
            refine J_istore (L' := [_, _, _, _, _, _, _, _, _]) dX7_ofMoments_78 (by decide) rfl ?_
            refine J_iinc (L' := [_, _, _, _, _, _, _, _, _]) dX7_ofMoments_80 rfl (nI_i1 m) (by decide) rfl ?_
            refine J_goto (tgt := 11) dX7_ofMoments_83 (by decide) ?_
            refine J_drop [6, 7, 8] rfl ?_
            rw [show nI o + 0 = nI o from nI_add o 0]
            exact ih (m + 1) _ _ _ (by omega) (by omega) (by rw [s1, ho, show omN ls m = 0 from oneI_f (fun q => (bI_0 hr2).mp c41 (hom.mpr q))]; rfl) (by rw [s2, ← hc, if_pos (by rw [nI_leI (by omega) (by omega)] at c54; omega)]) (by rw [s3, ← he, if_neg (fun q => by have c68 := (nI_leI (by omega) (by omega)).mp c68; omega)])
          · refine J_iload dX7_ofMoments_71 rfl ?_
            refine J_goto (tgt := 78) dX7_ofMoments_73 (by decide) ?_
            refine J_istore (L' := [_, _, _, _, _, _, _, _, _]) dX7_ofMoments_78 (by decide) rfl ?_
            refine J_iinc (L' := [_, _, _, _, _, _, _, _, _]) dX7_ofMoments_80 rfl (nI_i1 m) (by decide) rfl ?_
            refine J_goto (tgt := 11) dX7_ofMoments_83 (by decide) ?_
            refine J_drop [6, 7, 8] rfl ?_
            rw [show nI o + 0 = nI o from nI_add o 0]
            exact ih (m + 1) _ _ _ (by omega) (by omega) (by rw [s1, ho, show omN ls m = 0 from oneI_f (fun q => (bI_0 hr2).mp c41 (hom.mpr q))]; rfl) (by rw [s2, ← hc, if_pos (by rw [nI_leI (by omega) (by omega)] at c54; omega)]) (by rw [s3, ← he, if_pos (by rw [nI_leI (by omega) (by omega)] at c68; omega)])
      · refine J_iconst (x := 1) dX7_ofMoments_44 (by decide) ?_
        refine J_goto (tgt := 49) dX7_ofMoments_45 (by decide) ?_
        refine J_iadd dX7_ofMoments_49 ?_
        refine J_istore_n (L' := [_, _, _, _, _, _, _, _, _]) dX7_ofMoments_50 (by decide) rfl ?_
        refine J_iload dX7_ofMoments_51 rfl ?_
        refine J_iload_n dX7_ofMoments_53 rfl ?_
        refine J_icmp_le (tgt := 62) dX7_ofMoments_54 (by decide) (fun c54 => ?_) (fun c54 => ?_)
        · refine J_iload_n dX7_ofMoments_62 rfl ?_
          refine J_istore_n (L' := [_, _, _, _, _, _, _, _, _]) dX7_ofMoments_63 (by decide) rfl ?_
          refine J_iload dX7_ofMoments_64 rfl ?_
          refine J_iload dX7_ofMoments_66 rfl ?_
          refine J_icmp_ge (tgt := 76) dX7_ofMoments_68 (by decide) (fun c68 => ?_) (fun c68 => ?_)
          · refine J_iload dX7_ofMoments_76 rfl ?_
            refine J_istore (L' := [_, _, _, _, _, _, _, _, _]) dX7_ofMoments_78 (by decide) rfl ?_
            refine J_iinc (L' := [_, _, _, _, _, _, _, _, _]) dX7_ofMoments_80 rfl (nI_i1 m) (by decide) rfl ?_
            refine J_goto (tgt := 11) dX7_ofMoments_83 (by decide) ?_
            refine J_drop [6, 7, 8] rfl ?_
            rw [nI_1]
            exact ih (m + 1) _ _ _ (by omega) (by omega) (by rw [s1, ho, show omN ls m = 1 from oneI_t (hom.mp (nn_of hr2 c41))]) (by rw [s2, ← hc, if_neg (fun q => by have c54 := (nI_leI (by omega) (by omega)).mp c54; omega)]) (by rw [s3, ← he, if_neg (fun q => by have c68 := (nI_leI (by omega) (by omega)).mp c68; omega)])
          · refine J_iload dX7_ofMoments_71 rfl ?_
            refine J_goto (tgt := 78) dX7_ofMoments_73 (by decide) ?_
            refine J_istore (L' := [_, _, _, _, _, _, _, _, _]) dX7_ofMoments_78 (by decide) rfl ?_
            refine J_iinc (L' := [_, _, _, _, _, _, _, _, _]) dX7_ofMoments_80 rfl (nI_i1 m) (by decide) rfl ?_
            refine J_goto (tgt := 11) dX7_ofMoments_83 (by decide) ?_
            refine J_drop [6, 7, 8] rfl ?_
            rw [nI_1]
            exact ih (m + 1) _ _ _ (by omega) (by omega) (by rw [s1, ho, show omN ls m = 1 from oneI_t (hom.mp (nn_of hr2 c41))]) (by rw [s2, ← hc, if_neg (fun q => by have c54 := (nI_leI (by omega) (by omega)).mp c54; omega)]) (by rw [s3, ← he, if_pos (by rw [nI_leI (by omega) (by omega)] at c68; omega)])
        · refine J_iload dX7_ofMoments_57 rfl ?_
          refine J_goto (tgt := 63) dX7_ofMoments_59 (by decide) ?_
          refine J_istore_n (L' := [_, _, _, _, _, _, _, _, _]) dX7_ofMoments_63 (by decide) rfl ?_
          refine J_iload dX7_ofMoments_64 rfl ?_
          refine J_iload dX7_ofMoments_66 rfl ?_
          refine J_icmp_ge (tgt := 76) dX7_ofMoments_68 (by decide) (fun c68 => ?_) (fun c68 => ?_)
          · refine J_iload dX7_ofMoments_76 rfl ?_
            refine J_istore (L' := [_, _, _, _, _, _, _, _, _]) dX7_ofMoments_78 (by decide) rfl ?_
            refine J_iinc (L' := [_, _, _, _, _, _, _, _, _]) dX7_ofMoments_80 rfl (nI_i1 m) (by decide) rfl ?_
            refine J_goto (tgt := 11) dX7_ofMoments_83 (by decide) ?_
            refine J_drop [6, 7, 8] rfl ?_
            rw [nI_1]
            exact ih (m + 1) _ _ _ (by omega) (by omega) (by rw [s1, ho, show omN ls m = 1 from oneI_t (hom.mp (nn_of hr2 c41))]) (by rw [s2, ← hc, if_pos (by rw [nI_leI (by omega) (by omega)] at c54; omega)]) (by rw [s3, ← he, if_neg (fun q => by have c68 := (nI_leI (by omega) (by omega)).mp c68; omega)])
          · refine J_iload dX7_ofMoments_71 rfl ?_
            refine J_goto (tgt := 78) dX7_ofMoments_73 (by decide) ?_
            refine J_istore (L' := [_, _, _, _, _, _, _, _, _]) dX7_ofMoments_78 (by decide) rfl ?_
            refine J_iinc (L' := [_, _, _, _, _, _, _, _, _]) dX7_ofMoments_80 rfl (nI_i1 m) (by decide) rfl ?_
            refine J_goto (tgt := 11) dX7_ofMoments_83 (by decide) ?_
            refine J_drop [6, 7, 8] rfl ?_
            rw [nI_1]
            exact ih (m + 1) _ _ _ (by omega) (by omega) (by rw [s1, ho, show omN ls m = 1 from oneI_t (hom.mp (nn_of hr2 c41))]) (by rw [s2, ← hc, if_pos (by rw [nI_leI (by omega) (by omega)] at c54; omega)]) (by rw [s3, ← he, if_pos (by rw [nI_leI (by omega) (by omega)] at c68; omega)])
theorem s_X7_ofMoments {v : Int32} (hV : VQ h a ls) (hQ : ∀ r, r = ci (v = 4) (nI (sumN (omN ls) 64)) (ci (v = 5) (nI (maxN (pts ls) 64)) (nI (minN (pts ls) 64))) → Q (some (.int r)) h) : MJ m_X7_ofMoments 3 0 0 [.ref a, .int v] h Q := by
  refine MJ_of_J (L := [some (.ref a), some (.int v), none, none, none, none, none, none, none]) (by decide +kernel) rfl (Nat.le_of_ble_eq_true rfl) rfl ?_
  refine J_iconst (x := 0) dX7_ofMoments_0 (by decide) ?_
  refine J_istore_n (L' := [_, _, _, _, _, _, _, _, _]) dX7_ofMoments_1 (by decide) rfl ?_
  refine J_iconst (x := 0) dX7_ofMoments_2 (by decide) ?_
  refine J_istore_n (L' := [_, _, _, _, _, _, _, _, _]) dX7_ofMoments_3 (by decide) rfl ?_
  refine J_bipush (x := 16) dX7_ofMoments_4 (by decide) ?_
  refine J_istore (L' := [_, _, _, _, _, _, _, _, _]) dX7_ofMoments_6 (by decide) rfl ?_
  refine J_iconst (x := 0) dX7_ofMoments_8 (by decide) ?_
  refine J_istore (L' := [_, _, _, _, _, _, _, _, _]) dX7_ofMoments_9 (by decide) rfl ?_
  exact l_X7_ofMoments hV hQ 65 0 0 0 16 (by omega) (by omega) rfl rfl rfl
end SMod6
