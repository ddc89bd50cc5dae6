section SMod10
variable {h h' : g_H} {a p : Nat} {T : List Nat} {s : St} {ls acc : List Lk} {f g hh sn tx rd : Nat → Int32} {hl it tl sp nu rm : Int32} {Q : Option Value → g_H → Prop}
def TX (T : List Nat) (tx : Nat → Int32) : Prop := TV T tx ∧ T.length ≤ 60 ∧ ∀ c ∈ T, c < 65536
theorem s_X7_isHere {lo hi : Nat} (hR : VR h a f g hh sn tx rd hl it (nI T.length) (nI p) nu rm) (hT : TX T tx) (hp : p ≤ T.length) (hlo : lo < 1000) (hhi : hi < 1000) (hQ : ∀ r, r = bI (∃ c, T[p]? = some c ∧ lo ≤ c ∧ c ≤ hi) → Q (some (.int r)) h) : MJ m_X7_isHere 1 0 0 [.ref a, .int (nI lo), .int (nI hi)] h Q := by
  obtain ⟨hTV, h60, hTc⟩ := hT
  refine MJ_of_J (L := [some (.ref a), some (.int (nI lo)), some (.int (nI hi))]) (by decide +kernel) rfl (Nat.le_of_ble_eq_true rfl) rfl ?_
  refine J_aload_n dX7_isHere_0 rfl ?_
  refine J_get (k := 8) dX7_isHere_1 gc_7 fl_RX7_116 (by decide) hR.o hR.bo rfl ?_
  refine J_aload_n dX7_isHere_4 rfl ?_
  refine J_get (k := 7) dX7_isHere_5 gc_7 fl_RX7_113 (by decide) hR.o hR.bo rfl ?_
  refine J_icmp_ge (tgt := 35) dX7_isHere_8 (by decide) (fun c8 => ?_) (fun c8 => ?_)
  · refine J_iconst (x := 0) dX7_isHere_35 (by decide) ?_
    exact J_zret dX7_isHere_36 rfl (by first | exact Or.inl rfl | exact Or.inr rfl) ⟨rfl, Nat.le_refl _⟩ (hQ _ (bI_f (fun ⟨c, q, _⟩ => absurd (get_lt q) (by have c8 := (nI_leI (by omega) (by omega)).mp c8; omega))).symm)
  · have c8 : p < T.length := Nat.not_le.mp (fun q => c8 ((nI_leI (by omega) (by omega)).mpr q))
    obtain ⟨c, hc⟩ := get_of c8
    have hc6 := hTc c (List.mem_of_getElem? hc)
    refine J_aload_n dX7_isHere_11 rfl ?_
    refine J_get (k := 6) dX7_isHere_12 gc_7 fl_RX7_22 (by decide) hR.o hR.bo rfl ?_
    refine J_aload_n dX7_isHere_15 rfl ?_
    refine J_get (k := 8) dX7_isHere_16 gc_7 fl_RX7_116 (by decide) hR.o hR.bo rfl ?_
    refine J_iald dX7_isHere_19 hR.c5 hR.b5 (vp_in_nI (by omega) (by decide)) ?_
    rw [nI_clamp (n := p) (by omega), hTV p c hc]
    refine J_i2l dX7_isHere_20 ?_
    refine J_iload_n dX7_isHere_21 rfl ?_
    refine J_i2l dX7_isHere_22 ?_
    refine J_iload_n dX7_isHere_23 rfl ?_
    refine J_i2l dX7_isHere_24 ?_
    refine J_callS (As := [_, _, _]) (rest := []) (M' := m_X7_in) dX7_isHere_25 ml_RX7_34 gm_X7_in sm_yX7_in rfl rfl (Nat.le_of_ble_eq_true rfl) (by decide) ⟨rfl, rfl, by decide, by decide⟩ (s_X7_in (fun r hr => ?_))
    have hiff : ((nI lo).toInt64 ≤ (nI c).toInt64 ∧ (nI c).toInt64 ≤ (nI hi).toInt64) ↔ (lo ≤ c ∧ c ≤ hi) := by rw [Int64.le_iff_toInt_le, Int64.le_iff_toInt_le, i2l_toInt, i2l_toInt, i2l_toInt, nI_toInt (by omega), nI_toInt (by omega), nI_toInt (by omega)]; omega
    refine J_if_eq (tgt := 35) dX7_isHere_28 (by decide) (fun c28 => ?_) (fun c28 => ?_)
    · refine J_iconst (x := 0) dX7_isHere_35 (by decide) ?_
      exact J_zret dX7_isHere_36 rfl (by first | exact Or.inl rfl | exact Or.inr rfl) ⟨rfl, Nat.le_refl _⟩ (hQ _ (bI_f (fun ⟨c1, q, z⟩ => by rw [hc] at q; cases q; exact (bI_0 hr).mp c28 (hiff.mpr z))).symm)
    · refine J_iconst (x := 1) dX7_isHere_31 (by decide) ?_
      refine J_goto (tgt := 36) dX7_isHere_32 (by decide) ?_
      exact J_zret dX7_isHere_36 rfl (by first | exact Or.inl rfl | exact Or.inr rfl) ⟨rfl, Nat.le_refl _⟩ (hQ _ (bI_t ⟨c, hc, hiff.mp (nn_of hr c28)⟩).symm)
theorem s_X7_takes {c0 : Nat} (hR : VR h a f g hh sn tx rd hl it (nI T.length) (nI p) nu rm) (hT : TX T tx) (hp : p ≤ T.length) (hc : c0 < 1000) (hQ : ∀ r h', r = bI (T[p]? = some c0) → Fr a (a + 7) h h' → VR h' a f g hh sn tx rd hl it (nI T.length) (nI (if T[p]? = some c0 then p + 1 else p)) nu rm → Q (some (.int r)) h') : MJ m_X7_takes 2 0 0 [.ref a, .int (nI c0)] h Q := by
  have heq : (∃ c, T[p]? = some c ∧ c0 ≤ c ∧ c ≤ c0) ↔ T[p]? = some c0 := ⟨fun ⟨c, q, z⟩ => by rw [q]; exact congrArg some (by omega), fun q => ⟨c0, q, Nat.le_refl _, Nat.le_refl _⟩⟩
  refine MJ_of_J (L := [some (.ref a), some (.int (nI c0)), none]) (by decide +kernel) rfl (Nat.le_of_ble_eq_true rfl) rfl ?_
  refine J_aload_n dX7_takes_0 rfl ?_
  refine J_iload_n dX7_takes_1 rfl ?_
  refine J_iload_n dX7_takes_2 rfl ?_
  refine J_callV (As := [_, _]) (rest := []) (M' := m_X7_isHere) dX7_takes_3 ml_RX7_119 gm_X7_isHere gv_X7_isHere hR.o hR.bo rfl rfl rfl (Nat.le_of_ble_eq_true rfl) (by decide) ⟨rfl, rfl, by decide, by decide⟩ (s_X7_isHere hR hT hp hc hc (fun r hr => ?_))
  rw [bI_c heq] at hr
  refine J_istore_n (L' := [_, _, _]) dX7_takes_6 (by decide) rfl ?_
  refine J_aload_n dX7_takes_7 rfl ?_
  refine J_dup dX7_takes_8 rfl ?_
  refine J_get (k := 8) dX7_takes_9 gc_7 fl_RX7_116 (by decide) hR.o hR.bo rfl ?_
  refine J_iload_n dX7_takes_12 rfl ?_
  refine J_if_eq (tgt := 20) dX7_takes_13 (by decide) (fun c13 => ?_) (fun c13 => ?_)
  · refine J_iconst (x := 0) dX7_takes_20 (by decide) ?_
    refine J_iadd dX7_takes_21 ?_
    rw [show nI p + 0 = nI p from nI_add p 0]
    refine J_put (k := 8) dX7_takes_22 gc_7 fl_RX7_116 (by decide) rfl hR.o hR.bo (Nat.le_of_ble_eq_true rfl) (fun _ => ⟨rfl, rfl⟩) rfl ?_
    replace hR := hR.so hl it (nI T.length) (nI p) nu rm
    refine J_iload_n dX7_takes_25 rfl ?_
    exact J_zret dX7_takes_26 rfl (by rw [hr]; exact bI_01 _) ⟨rfl, Nat.le_refl _⟩ (hQ _ _ hr (Fr.rf.up (by omega) (by omega)) (by rw [if_neg ((bI_0 hr).mp c13)]; exact hR))
  · refine J_iconst (x := 1) dX7_takes_16 (by decide) ?_
    refine J_goto (tgt := 21) dX7_takes_17 (by decide) ?_
    refine J_iadd dX7_takes_21 ?_
    rw [nI_1]
    refine J_put (k := 8) dX7_takes_22 gc_7 fl_RX7_116 (by decide) rfl hR.o hR.bo (Nat.le_of_ble_eq_true rfl) (fun _ => ⟨rfl, rfl⟩) rfl ?_
    replace hR := hR.so hl it (nI T.length) (nI (p + 1)) nu rm
    refine J_iload_n dX7_takes_25 rfl ?_
    exact J_zret dX7_takes_26 rfl (by rw [hr]; exact bI_01 _) ⟨rfl, Nat.le_refl _⟩ (hQ _ _ hr (Fr.rf.up (by omega) (by omega)) (by rw [if_pos (nn_of hr c13)]; exact hR))
theorem s1_X7_isTold (hR : VR h a f g hh sn tx rd hl it (nI T.length) (nI p) nu rm) (hQ : ∀ h', Fr a (a + 7) h h' → VR h' a f g hh sn tx rd hl it (nI T.length) (nI p) nu rm → Q (some (.int 1)) h') : MJ m_X7_isTold 0 0 0 [.ref a, .int 1] h Q := by
  refine MJ_of_J (L := [some (.ref a), some (.int 1)]) (by decide +kernel) rfl (Nat.le_of_ble_eq_true rfl) rfl ?_
  refine J_aload_n dX7_isTold_0 rfl ?_
  refine J_dup dX7_isTold_1 rfl ?_
  refine J_get (k := 8) dX7_isTold_2 gc_7 fl_RX7_116 (by decide) hR.o hR.bo rfl ?_
  refine J_iload_n dX7_isTold_5 rfl ?_
  refine J_if_eq (tgt := 13) dX7_isTold_6 (by decide) (fun c6 => absurd c6 (by decide)) (fun c6 => ?_)
  refine J_iconst (x := 0) dX7_isTold_9 (by decide) ?_
  refine J_goto (tgt := 14) dX7_isTold_10 (by decide) ?_
  refine J_isub dX7_isTold_14 ?_
  rw [show nI p - 0 = nI p from pk_sub (b := 0) (Nat.zero_le _)]
  refine J_put (k := 8) dX7_isTold_15 gc_7 fl_RX7_116 (by decide) rfl hR.o hR.bo (Nat.le_of_ble_eq_true rfl) (fun _ => ⟨rfl, rfl⟩) rfl ?_
  replace hR := hR.so hl it (nI T.length) (nI p) nu rm
  refine J_iload_n dX7_isTold_18 rfl ?_
  exact J_zret dX7_isTold_19 rfl (by first | exact Or.inl rfl | exact Or.inr rfl) ⟨rfl, Nat.le_refl _⟩ (hQ _ (Fr.rf.up (by omega) (by omega)) hR)
theorem s0_X7_isTold (hR : VR h a f g hh sn tx rd hl it (nI T.length) (nI (p + 1)) nu rm) (hQ : ∀ h', Fr a (a + 7) h h' → VR h' a f g hh sn tx rd hl it (nI T.length) (nI p) nu rm → Q (some (.int 0)) h') : MJ m_X7_isTold 0 0 0 [.ref a, .int 0] h Q := by
  refine MJ_of_J (L := [some (.ref a), some (.int 0)]) (by decide +kernel) rfl (Nat.le_of_ble_eq_true rfl) rfl ?_
  refine J_aload_n dX7_isTold_0 rfl ?_
  refine J_dup dX7_isTold_1 rfl ?_
  refine J_get (k := 8) dX7_isTold_2 gc_7 fl_RX7_116 (by decide) hR.o hR.bo rfl ?_
  refine J_iload_n dX7_isTold_5 rfl ?_
  refine J_if_eq (tgt := 13) dX7_isTold_6 (by decide) (fun c6 => ?_) (fun c6 => absurd rfl c6)
  refine J_iconst (x := 1) dX7_isTold_13 (by decide) ?_
  refine J_isub dX7_isTold_14 ?_
  rw [nI_pred]
  refine J_put (k := 8) dX7_isTold_15 gc_7 fl_RX7_116 (by decide) rfl hR.o hR.bo (Nat.le_of_ble_eq_true rfl) (fun _ => ⟨rfl, rfl⟩) rfl ?_
  replace hR := hR.so hl it (nI T.length) (nI p) nu rm
  refine J_iload_n dX7_isTold_18 rfl ?_
  exact J_zret dX7_isTold_19 rfl (by first | exact Or.inl rfl | exact Or.inr rfl) ⟨rfl, Nat.le_refl _⟩ (hQ _ (Fr.rf.up (by omega) (by omega)) hR)
theorem dg_iff {i : Nat} : (∃ c, T[i]? = some c ∧ 48 ≤ c ∧ c ≤ 57) ↔ ∃ v, dg T i = some v := by
  unfold dg
  constructor
  · rintro ⟨c, q, z⟩
    rw [q]; dsimp only
    exact ⟨c - 48, if_pos z⟩
  · rintro ⟨v, q⟩
    cases hc : T[i]? with
    | none => rw [hc] at q; cases q
    | some c =>
      rw [hc] at q; dsimp only at q
      by_cases z : 48 ≤ c ∧ c ≤ 57
      · exact ⟨c, rfl, z⟩
      · rw [if_neg z] at q; cases q
theorem dg_at {i c v : Nat} (hd : dg T i = some v) (hc : T[i]? = some c) : c = 48 + v ∧ v ≤ 9 := by
  have := dg_lt hd
  unfold dg at hd
  rw [hc] at hd; dsimp only at hd
  by_cases z : 48 ≤ c ∧ c ≤ 57
  · rw [if_pos z] at hd; cases hd; omega
  · rw [if_neg z] at hd; cases hd
theorem dg_x {i v : Nat} (hT : TX T tx) (hd : dg T i = some v) : tx i = nI (48 + v) ∧ v ≤ 9 ∧ i < T.length := by
  have hl := (dg_lt hd).2
  obtain ⟨c, hc⟩ := get_of hl
  obtain ⟨e, hv⟩ := dg_at hd hc
  rw [← e]
  exact ⟨hT.1 i c hc, hv, hl⟩
theorem s_X7_readsNumber {gr : Nat} (hR : VR h a f g hh sn tx rd hl it (nI T.length) (nI p) nu rm) (hT : TX T tx) (hp : p ≤ T.length) (hg2 : gr < 100) (hQ0 : rN T gr p = none → Q (some (.int 0)) h) (hQ1 : ∀ h' v q, rN T gr p = some (v, q) → Fr a (a + 7) h h' → VR h' a f g hh sn tx rd hl it (nI T.length) (nI q) (nI v) rm → Q (some (.int 1)) h') : MJ m_X7_readsNumber 2 0 0 [.ref a, .int (nI gr)] h Q := by
  have h60 := hT.2.1
  refine MJ_of_J (L := [some (.ref a), some (.int (nI gr))]) (by decide +kernel) rfl (Nat.le_of_ble_eq_true rfl) rfl ?_
  refine J_aload_n dX7_readsNumber_0 rfl ?_
  refine J_bipush (x := 48) dX7_readsNumber_1 (by decide) ?_
  refine J_bipush (x := 57) dX7_readsNumber_3 (by decide) ?_
  refine J_callV (As := [_, _]) (rest := []) (M' := m_X7_isHere) dX7_readsNumber_5 ml_RX7_119 gm_X7_isHere gv_X7_isHere hR.o hR.bo rfl rfl rfl (Nat.le_of_ble_eq_true rfl) (by decide) ⟨rfl, rfl, by decide, by decide⟩ (s_X7_isHere (lo := 48) (hi := 57) hR hT hp (by decide) (by decide) (fun r hr => ?_))
  rw [bI_c dg_iff] at hr
  refine J_if_ne (tgt := 13) dX7_readsNumber_8 (by decide) (fun c8 => ?_) (fun c8 => ?_)
  · obtain ⟨v, hv⟩ := nn_of hr c8
    obtain ⟨x1, x2, x3⟩ := dg_x hT hv
    refine J_aload_n dX7_readsNumber_13 rfl ?_
    refine J_aload_n dX7_readsNumber_14 rfl ?_
    refine J_get (k := 6) dX7_readsNumber_15 gc_7 fl_RX7_22 (by decide) hR.o hR.bo rfl ?_
    refine J_aload_n dX7_readsNumber_18 rfl ?_
    refine J_get (k := 8) dX7_readsNumber_19 gc_7 fl_RX7_116 (by decide) hR.o hR.bo rfl ?_
    refine J_iald dX7_readsNumber_22 hR.c5 hR.b5 (vp_in_nI (by omega) (by decide)) ?_
    rw [nI_clamp (n := p) (by omega), x1]
    refine J_bipush (x := 48) dX7_readsNumber_23 (by decide) ?_
    refine J_isub dX7_readsNumber_25 ?_
    rw [show nI (48 + v) - (48 : Int32) = nI v from (pk_sub (b := 48) (by omega)).trans (congrArg nI (by omega))]
    refine J_put (k := 9) dX7_readsNumber_26 gc_7 fl_RX7_122 (by decide) rfl hR.o hR.bo (Nat.le_of_ble_eq_true rfl) (fun _ => ⟨rfl, rfl⟩) rfl ?_
    replace hR := hR.so hl it (nI T.length) (nI p) (nI v) rm
    refine J_aload_n dX7_readsNumber_29 rfl ?_
    refine J_dup dX7_readsNumber_30 rfl ?_
    refine J_get (k := 8) dX7_readsNumber_31 gc_7 fl_RX7_116 (by decide) hR.o hR.bo rfl ?_
    refine J_iconst (x := 1) dX7_readsNumber_34 (by decide) ?_
    refine J_iadd dX7_readsNumber_35 ?_
    rw [nI_1]
    refine J_put (k := 8) dX7_readsNumber_36 gc_7 fl_RX7_116 (by decide) rfl hR.o hR.bo (Nat.le_of_ble_eq_true rfl) (fun _ => ⟨rfl, rfl⟩) rfl ?_
    replace hR := hR.so hl it (nI T.length) (nI (p + 1)) (nI v) rm
    refine J_aload_n dX7_readsNumber_39 rfl ?_
    refine J_get (k := 9) dX7_readsNumber_40 gc_7 fl_RX7_122 (by decide) hR.o hR.bo rfl ?_
    refine J_if_le (tgt := 115) dX7_readsNumber_43 (by decide) (fun c43 => ?_) (fun c43 => ?_)
    · refine J_iconst (x := 1) dX7_readsNumber_115 (by decide) ?_
      exact J_zret dX7_readsNumber_116 rfl (by first | exact Or.inl rfl | exact Or.inr rfl) ⟨rfl, Nat.le_refl _⟩ (hQ1 _ v (p + 1) (by have v0 : v = 0 := by { have c43 : nI v ≤ nI 0 := c43; rw [nI_leI (by omega) (by omega)] at c43; omega }; unfold rN; rw [hv]; dsimp only; cases z : dg T (p + 1) with | none => rfl | some x => (dsimp only; rw [if_pos (Or.inl v0)])) ((Fr.rf.up (by omega) (by omega)).up (by omega) (by omega)) hR)
    · refine J_aload_n dX7_readsNumber_46 rfl ?_
      refine J_bipush (x := 48) dX7_readsNumber_47 (by decide) ?_
      refine J_bipush (x := 57) dX7_readsNumber_49 (by decide) ?_
      refine J_callV (As := [_, _]) (rest := []) (M' := m_X7_isHere) dX7_readsNumber_51 ml_RX7_119 gm_X7_isHere gv_X7_isHere hR.o hR.bo rfl rfl rfl (Nat.le_of_ble_eq_true rfl) (by decide) ⟨rfl, rfl, by decide, by decide⟩ (s_X7_isHere (lo := 48) (hi := 57) hR hT (show p + 1 ≤ T.length by omega) (by decide) (by decide) (fun r2 hr2 => ?_))
      rw [bI_c dg_iff] at hr2
      refine J_if_eq (tgt := 115) dX7_readsNumber_54 (by decide) (fun c54 => ?_) (fun c54 => ?_)
      · refine J_iconst (x := 1) dX7_readsNumber_115 (by decide) ?_
        exact J_zret dX7_readsNumber_116 rfl (by first | exact Or.inl rfl | exact Or.inr rfl) ⟨rfl, Nat.le_refl _⟩ (hQ1 _ v (p + 1) (by have hx : dg T (p + 1) = none := by { cases z : dg T (p + 1) with | none => rfl | some x => exact absurd ⟨x, z⟩ ((bI_0 hr2).mp c54) }; unfold rN; rw [hv]; dsimp only; rw [hx]) ((Fr.rf.up (by omega) (by omega)).up (by omega) (by omega)) hR)
      · obtain ⟨x, hx⟩ := nn_of hr2 c54
        obtain ⟨y1, y2, y3⟩ := dg_x hT hx
        refine J_bipush (x := 10) dX7_readsNumber_57 (by decide) ?_
        refine J_aload_n dX7_readsNumber_59 rfl ?_
        refine J_get (k := 9) dX7_readsNumber_60 gc_7 fl_RX7_122 (by decide) hR.o hR.bo rfl ?_
        refine J_imul dX7_readsNumber_63 ?_
        refine J_aload_n dX7_readsNumber_64 rfl ?_
        refine J_get (k := 6) dX7_readsNumber_65 gc_7 fl_RX7_22 (by decide) hR.o hR.bo rfl ?_
        refine J_aload_n dX7_readsNumber_68 rfl ?_
        refine J_get (k := 8) dX7_readsNumber_69 gc_7 fl_RX7_116 (by decide) hR.o hR.bo rfl ?_
        refine J_iald dX7_readsNumber_72 hR.c5 hR.b5 (vp_in_nI (by omega) (by decide)) ?_
        rw [nI_clamp (n := p + 1) (by omega), y1]
        rw [show (10 : Int32) * nI v = nI (10 * v) from pk_mul 10 v]
        refine J_iadd dX7_readsNumber_73 ?_
        rw [nI_add]
        refine J_bipush (x := 48) dX7_readsNumber_74 (by decide) ?_
        refine J_isub dX7_readsNumber_76 ?_
        rw [show nI (10 * v + (48 + x)) - (48 : Int32) = nI (10 * v + x) from by rw [show 10 * v + (48 + x) = 48 + (10 * v + x) by omega]; exact (pk_sub (b := 48) (by omega)).trans (congrArg nI (by omega))]
        refine J_iload_n dX7_readsNumber_77 rfl ?_
        refine J_icmp_gt (tgt := 115) dX7_readsNumber_78 (by decide) (fun c78 => ?_) (fun c78 => ?_)
        · refine J_iconst (x := 1) dX7_readsNumber_115 (by decide) ?_
          exact J_zret dX7_readsNumber_116 rfl (by first | exact Or.inl rfl | exact Or.inr rfl) ⟨rfl, Nat.le_refl _⟩ (hQ1 _ v (p + 1) (by rw [nI_ltI (by omega) (by omega)] at c78; unfold rN; rw [hv]; dsimp only; rw [hx]; dsimp only; rw [if_pos (Or.inr c78)]) ((Fr.rf.up (by omega) (by omega)).up (by omega) (by omega)) hR)
        · refine J_aload_n dX7_readsNumber_81 rfl ?_
          refine J_bipush (x := 10) dX7_readsNumber_82 (by decide) ?_
          refine J_aload_n dX7_readsNumber_84 rfl ?_
          refine J_get (k := 9) dX7_readsNumber_85 gc_7 fl_RX7_122 (by decide) hR.o hR.bo rfl ?_
          refine J_imul dX7_readsNumber_88 ?_
          refine J_aload_n dX7_readsNumber_89 rfl ?_
          refine J_get (k := 6) dX7_readsNumber_90 gc_7 fl_RX7_22 (by decide) hR.o hR.bo rfl ?_
          refine J_aload_n dX7_readsNumber_93 rfl ?_
          refine J_get (k := 8) dX7_readsNumber_94 gc_7 fl_RX7_116 (by decide) hR.o hR.bo rfl ?_
          refine J_iald dX7_readsNumber_97 hR.c5 hR.b5 (vp_in_nI (by omega) (by decide)) ?_
          rw [nI_clamp (n := p + 1) (by omega), y1]
          rw [show (10 : Int32) * nI v = nI (10 * v) from pk_mul 10 v]
          refine J_iadd dX7_readsNumber_98 ?_
          rw [nI_add]
          refine J_bipush (x := 48) dX7_readsNumber_99 (by decide) ?_
          refine J_isub dX7_readsNumber_101 ?_
          rw [show nI (10 * v + (48 + x)) - (48 : Int32) = nI (10 * v + x) from by rw [show 10 * v + (48 + x) = 48 + (10 * v + x) by omega]; exact (pk_sub (b := 48) (by omega)).trans (congrArg nI (by omega))]
          refine J_put (k := 9) dX7_readsNumber_102 gc_7 fl_RX7_122 (by decide) rfl hR.o hR.bo (Nat.le_of_ble_eq_true rfl) (fun _ => ⟨rfl, rfl⟩) rfl ?_
          replace hR := hR.so hl it (nI T.length) (nI (p + 1)) (nI (10 * v + x)) rm
          refine J_aload_n dX7_readsNumber_105 rfl ?_
          refine J_dup dX7_readsNumber_106 rfl ?_
          refine J_get (k := 8) dX7_readsNumber_107 gc_7 fl_RX7_116 (by decide) hR.o hR.bo rfl ?_
          refine J_iconst (x := 1) dX7_readsNumber_110 (by decide) ?_
          refine J_iadd dX7_readsNumber_111 ?_
          rw [nI_1]
          refine J_put (k := 8) dX7_readsNumber_112 gc_7 fl_RX7_116 (by decide) rfl hR.o hR.bo (Nat.le_of_ble_eq_true rfl) (fun _ => ⟨rfl, rfl⟩) rfl ?_
          replace hR := hR.so hl it (nI T.length) (nI (p + 2)) (nI (10 * v + x)) rm
          refine J_iconst (x := 1) dX7_readsNumber_115 (by decide) ?_
          exact J_zret dX7_readsNumber_116 rfl (by first | exact Or.inl rfl | exact Or.inr rfl) ⟨rfl, Nat.le_refl _⟩ (hQ1 _ (10 * v + x) (p + 2) (by rw [nI_ltI (by omega) (by omega)] at c78; have v0 : v ≠ 0 := by { intro e; apply c43; rw [e]; decide }; unfold rN; rw [hv]; dsimp only; rw [hx]; dsimp only; rw [if_neg (fun q => q.elim v0 c78)]) ((((Fr.rf.up (by omega) (by omega)).up (by omega) (by omega)).up (by omega) (by omega)).up (by omega) (by omega)) hR)
  · refine J_iconst (x := 0) dX7_readsNumber_11 (by decide) ?_
    exact J_zret dX7_readsNumber_12 rfl (by first | exact Or.inl rfl | exact Or.inr rfl) ⟨rfl, Nat.le_refl _⟩ (hQ0 (by cases z : dg T p with | none => (unfold rN; rw [z]) | some v => exact absurd ⟨v, z⟩ ((bI_0 hr).mp c8)))
end SMod10
