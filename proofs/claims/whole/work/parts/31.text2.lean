section SText2
variable {h h' : g_H} {a : Nat} {tx : List Nat} {acc : List Lk} {p : Nat} {Q : Option Value → g_H → Prop}
theorem s_X3_refuseLastDigit {p : Nat} (hP : TP h a tx (nI (p + 1))) (hQ : ∀ h', Fr a (a + 2) h h' → TP h' a tx (nI p) → Q (some (.int 0)) h') : MJ m_X3_refuseLastDigit 0 0 0 [.ref a] h Q := by
  refine MJ_of_J (L := [some (.ref a)]) (by decide +kernel) rfl (Nat.le_of_ble_eq_true rfl) rfl ?_
  refine J_aload_n dX3_refuseLastDigit_0 rfl ?_
  refine J_dup dX3_refuseLastDigit_1 rfl ?_
  refine J_get (k := 2) dX3_refuseLastDigit_2 gc_3 fl_RX3_24 (by decide) hP.o hP.bo rfl ?_
  refine J_iconst (x := 1) dX3_refuseLastDigit_5 (by decide) ?_
  refine J_isub dX3_refuseLastDigit_6 ?_
  rw [nI_pred]
  refine J_put (k := 2) dX3_refuseLastDigit_7 gc_3 fl_RX3_24 (by decide) rfl hP.o hP.bo (Nat.le_of_ble_eq_true rfl) (fun _ => ⟨rfl, rfl⟩) rfl ?_
  replace hP := hP.so (nI p)
  refine J_iconst (x := 0) dX3_refuseLastDigit_10 (by decide) ?_
  exact J_zret dX3_refuseLastDigit_11 rfl (by first | exact Or.inl rfl | exact Or.inr rfl) ⟨rfl, Nat.le_refl _⟩ (hQ _ (Fr.rf.up (by omega) (by omega)) hP)
theorem s_X3_readSign {c : Nat} (hP : TP h a tx (nI p)) (hp : p ≤ tx.length) (hc : c < 65536) (hQ : ∀ r h', r = bI (tx[p]? = some c) → Fr a (a + 2) h h' → TP h' a tx (nI (if tx[p]? = some c then p + 1 else p)) → Q (some (.int r)) h') : MJ m_X3_readSign 0 0 0 [.ref a, .int (nI c)] h Q := by
  have hP0 := hP
  obtain ⟨g, hR, hV, hn, hO⟩ := hP
  refine MJ_of_J (L := [some (.ref a), some (.int (nI c))]) (by decide +kernel) rfl (Nat.le_of_ble_eq_true rfl) rfl ?_
  refine J_aload_n dX3_readSign_0 rfl ?_
  refine J_get (k := 2) dX3_readSign_1 gc_3 fl_RX3_24 (by decide) hR.o hR.bo rfl ?_
  refine J_if_lt (tgt := 31) dX3_readSign_4 (by decide) (fun c4 => absurd c4 (nI_pos (by omega))) (fun c4 => ?_)
  refine J_aload_n dX3_readSign_7 rfl ?_
  refine J_get (k := 2) dX3_readSign_8 gc_3 fl_RX3_24 (by decide) hR.o hR.bo rfl ?_
  refine J_aload_n dX3_readSign_11 rfl ?_
  refine J_get (k := 1) dX3_readSign_12 gc_3 fl_RX3_15 (by decide) hR.o hR.bo rfl ?_
  refine J_icmp_ge (tgt := 31) dX3_readSign_15 (by decide) (fun c15 => ?_) (fun c15 => ?_)
  · refine J_iconst (x := 0) dX3_readSign_31 (by decide) ?_
    exact J_zret dX3_readSign_32 rfl (by first | exact Or.inl rfl | exact Or.inr rfl) ⟨rfl, Nat.le_refl _⟩ (hQ _ _ (bI_f (fun q => absurd (get_lt q) (by have c15 := (nI_leI (by omega) (by omega)).mp c15; omega))).symm Fr.rf (by rw [if_neg (fun q => absurd (get_lt q) (by have c15 := (nI_leI (by omega) (by omega)).mp c15; omega))]; exact hP0))
  · have c15 : p < tx.length := Nat.not_le.mp (fun q => c15 ((nI_leI (by omega) (by omega)).mpr q))
    obtain ⟨x, hx⟩ := get_of c15
    have hx6 := hO x (List.mem_of_getElem? hx)
    have hgx := hV p x hx
    refine J_aload_n dX3_readSign_18 rfl ?_
    refine J_get (k := 0) dX3_readSign_19 gc_3 fl_RX3_9 (by decide) hR.o hR.bo rfl ?_
    refine J_aload_n dX3_readSign_22 rfl ?_
    refine J_get (k := 2) dX3_readSign_23 gc_3 fl_RX3_24 (by decide) hR.o hR.bo rfl ?_
    refine J_cald dX3_readSign_26 hR.c hR.bc (vp_in_nI (show p < 60 by omega) (by decide)) ?_
    rw [nI_clamp (n := p) (by omega), hgx]
    refine J_iload_n dX3_readSign_27 rfl ?_
    refine J_icmp_eq (tgt := 33) dX3_readSign_28 (by decide) (fun c28 => ?_) (fun c28 => ?_)
    · have c28 := (nI_eq (by omega) (by omega)).mp c28
      subst c28
      refine J_aload_n dX3_readSign_33 rfl ?_
      refine J_dup dX3_readSign_34 rfl ?_
      refine J_get (k := 2) dX3_readSign_35 gc_3 fl_RX3_24 (by decide) hR.o hR.bo rfl ?_
      refine J_iconst (x := 1) dX3_readSign_38 (by decide) ?_
      refine J_iadd dX3_readSign_39 ?_
      rw [nI_1]
      refine J_put (k := 2) dX3_readSign_40 gc_3 fl_RX3_24 (by decide) rfl hR.o hR.bo (Nat.le_of_ble_eq_true rfl) (fun _ => ⟨rfl, rfl⟩) rfl ?_
      replace hR := hR.so (nI tx.length) (nI (p + 1))
      refine J_iconst (x := 1) dX3_readSign_43 (by decide) ?_
      exact J_zret dX3_readSign_44 rfl (by first | exact Or.inl rfl | exact Or.inr rfl) ⟨rfl, Nat.le_refl _⟩ (hQ _ _ (bI_t hx).symm (Fr.rf.up (by omega) (by omega)) (by rw [if_pos hx]; exact ⟨g, hR, hV, hn, hO⟩))
    · refine J_iconst (x := 0) dX3_readSign_31 (by decide) ?_
      exact J_zret dX3_readSign_32 rfl (by first | exact Or.inl rfl | exact Or.inr rfl) ⟨rfl, Nat.le_refl _⟩ (hQ _ _ (bI_f (fun q => c28 (by rw [hx] at q; rw [Option.some.inj q]))).symm Fr.rf (by rw [if_neg (fun q => c28 (by rw [hx] at q; rw [Option.some.inj q]))]; exact hP0))
/-- what the reading of a number answers -/
def NQ (tx : List Nat) (gr p : Nat) (r : Int32) (q : Nat) : Prop := (rN tx gr p = none ∧ r = -1 ∧ q = p) ∨ ∃ v, rN tx gr p = some (v, q) ∧ r = nI v
theorem oI_ne {v : Nat} (hv : v < 2 ^ 31) : ¬ nI v = -1 := fun e => by
  have h1 := congrArg Int32.toInt e
  rw [nI_toInt hv] at h1
  have h2 : (-1 : Int32).toInt = -1 := by decide
  omega
theorem NQ.n {gr q : Nat} {r : Int32} (hN : NQ tx gr p r q) (hg : 9 ≤ gr) (hg2 : gr < 100) (c : r = -1) : rN tx gr p = none ∧ q = p := by
  rcases hN with ⟨h1, h2, h3⟩ | ⟨v, h1, h2⟩
  · exact ⟨h1, h3⟩
  · have := rN_b hg h1
    subst h2
    exact absurd c (oI_ne (by omega))
theorem NQ.y {gr q : Nat} {r : Int32} (hN : NQ tx gr p r q) (hg : 9 ≤ gr) (c : ¬ r = -1) : ∃ v, rN tx gr p = some (v, q) ∧ r = nI v ∧ v ≤ gr ∧ p + 1 ≤ q ∧ q ≤ tx.length := by
  rcases hN with ⟨h1, h2, h3⟩ | ⟨v, h1, h2⟩
  · exact absurd h2 c
  · have := rN_b hg h1
    exact ⟨v, h1, h2, this⟩
theorem s_X3_readNumber {gr : Nat} (hP : TP h a tx (nI p)) (hp : p ≤ tx.length) (hg : 9 ≤ gr) (hg2 : gr < 100) (hQ : ∀ r h' q, NQ tx gr p r q → Fr a (a + 2) h h' → TP h' a tx (nI q) → Q (some (.int r)) h') : MJ m_X3_readNumber 1 0 0 [.ref a, .int (nI gr)] h Q := by
  have hn := hP.len
  refine MJ_of_J (L := [some (.ref a), some (.int (nI gr)), none, none, none]) (by decide +kernel) rfl (Nat.le_of_ble_eq_true rfl) rfl ?_
  refine J_aload_n dX3_readNumber_0 rfl ?_
  refine J_aload_n dX3_readNumber_1 rfl ?_
  refine J_get (k := 2) dX3_readNumber_2 gc_3 fl_RX3_24 (by decide) hP.o hP.bo rfl ?_
  refine J_callV (As := [_]) (rest := []) (M' := m_X3_digitAt) dX3_readNumber_5 ml_RX3_47 gm_X3_digitAt gv_X3_digitAt hP.o hP.bo rfl rfl rfl (Nat.le_of_ble_eq_true rfl) (by decide) ⟨rfl, rfl, by decide, by decide⟩ (s_X3_digitAt hP (by omega) (fun r hr => ?_))
  refine J_istore_n (L' := [_, _, _, _, _]) dX3_readNumber_8 (by decide) rfl ?_
  refine J_iload_n dX3_readNumber_9 rfl ?_
  refine J_iconst (x := -1) dX3_readNumber_10 (by decide) ?_
  refine J_icmp_ne (tgt := 16) dX3_readNumber_11 (by decide) (fun c11 => ?_) (fun c11 => ?_)
  · have hd1 : ∃ v, dg tx p = some v ∧ r = nI v := by
      cases z : dg tx p with
      | none => rw [z] at hr; exact absurd hr c11
      | some v => rw [z] at hr; exact ⟨v, rfl, hr⟩
    obtain ⟨v, hv, rfl⟩ := hd1
    have bv := dg_lt hv
    refine J_aload_n dX3_readNumber_16 rfl ?_
    refine J_dup dX3_readNumber_17 rfl ?_
    refine J_get (k := 2) dX3_readNumber_18 gc_3 fl_RX3_24 (by decide) hP.o hP.bo rfl ?_
    refine J_iconst (x := 1) dX3_readNumber_21 (by decide) ?_
    refine J_iadd dX3_readNumber_22 ?_
    rw [nI_1]
    refine J_put (k := 2) dX3_readNumber_23 gc_3 fl_RX3_24 (by decide) rfl hP.o hP.bo (Nat.le_of_ble_eq_true rfl) (fun _ => ⟨rfl, rfl⟩) rfl ?_
    replace hP := hP.so (nI (p + 1))
    have hF1 := up_fr h a (.inr (3, [.ref (a + 1), .int (nI tx.length), .int (nI (p + 1))]))
    refine J_aload_n dX3_readNumber_26 rfl ?_
    refine J_aload_n dX3_readNumber_27 rfl ?_
    refine J_get (k := 2) dX3_readNumber_28 gc_3 fl_RX3_24 (by decide) hP.o hP.bo rfl ?_
    refine J_callV (As := [_]) (rest := []) (M' := m_X3_digitAt) dX3_readNumber_31 ml_RX3_47 gm_X3_digitAt gv_X3_digitAt hP.o hP.bo rfl rfl rfl (Nat.le_of_ble_eq_true rfl) (by decide) ⟨rfl, rfl, by decide, by decide⟩ (s_X3_digitAt hP (by omega) (fun r2 hr2 => ?_))
    refine J_istore_n (L' := [_, _, _, _, _]) dX3_readNumber_34 (by decide) rfl ?_
    refine J_bipush (x := 10) dX3_readNumber_35 (by decide) ?_
    refine J_iload_n dX3_readNumber_37 rfl ?_
    refine J_imul dX3_readNumber_38 ?_
    refine J_iload_n dX3_readNumber_39 rfl ?_
    refine J_iadd dX3_readNumber_40 ?_
    refine J_istore (L' := [_, _, _, _, _]) dX3_readNumber_41 (by decide) rfl ?_
    refine J_iload_n dX3_readNumber_43 rfl ?_
    refine J_if_eq (tgt := 58) dX3_readNumber_44 (by decide) (fun c44 => ?_) (fun c44 => ?_)
    · refine J_iload_n dX3_readNumber_58 rfl ?_
      exact J_iret dX3_readNumber_59 rfl ⟨rfl, Nat.le_refl _⟩ (hQ _ _ (p + 1) (Or.inr ⟨v, by unfold rN; rw [hv]; dsimp only; have v0 : v = 0 := (nI_eq (b := 0) (by omega) (by omega)).mp c44; cases z : dg tx (p + 1) with | none => rfl | some x => (dsimp only; rw [if_pos (Or.inl v0)]), rfl⟩) (hF1.mono (by omega) (by omega)) hP)
    · refine J_iload_n dX3_readNumber_47 rfl ?_
      refine J_iconst (x := -1) dX3_readNumber_48 (by decide) ?_
      refine J_icmp_eq (tgt := 58) dX3_readNumber_49 (by decide) (fun c49 => ?_) (fun c49 => ?_)
      · refine J_iload_n dX3_readNumber_58 rfl ?_
        exact J_iret dX3_readNumber_59 rfl ⟨rfl, Nat.le_refl _⟩ (hQ _ _ (p + 1) (Or.inr ⟨v, by unfold rN; rw [hv]; dsimp only; cases z : dg tx (p + 1) with | none => rfl | some x => (rw [z] at hr2; exact absurd (hr2.symm.trans c49) (oI_ne (by have := dg_lt z; omega))), rfl⟩) (hF1.mono (by omega) (by omega)) hP)
      · have hd2 : ∃ x, dg tx (p + 1) = some x ∧ r2 = nI x := by
          cases z : dg tx (p + 1) with
          | none => rw [z] at hr2; exact absurd hr2 c49
          | some x => rw [z] at hr2; exact ⟨x, rfl, hr2⟩
        obtain ⟨x, hx, rfl⟩ := hd2
        have bx := dg_lt hx
        rw [show (10 : Int32) * nI v + nI x = nI (10 * v + x) from by rw [show (10 : Int32) * nI v = nI (10 * v) from pk_mul 10 v, nI_add]]
        refine J_iload dX3_readNumber_52 rfl ?_
        refine J_iload_n dX3_readNumber_54 rfl ?_
        refine J_icmp_le (tgt := 60) dX3_readNumber_55 (by decide) (fun c55 => ?_) (fun c55 => ?_)
        · refine J_aload_n dX3_readNumber_60 rfl ?_
          refine J_dup dX3_readNumber_61 rfl ?_
          refine J_get (k := 2) dX3_readNumber_62 gc_3 fl_RX3_24 (by decide) hP.o hP.bo rfl ?_
          refine J_iconst (x := 1) dX3_readNumber_65 (by decide) ?_
          refine J_iadd dX3_readNumber_66 ?_
          rw [nI_1]
          refine J_put (k := 2) dX3_readNumber_67 gc_3 fl_RX3_24 (by decide) rfl hP.o hP.bo (Nat.le_of_ble_eq_true rfl) (fun _ => ⟨rfl, rfl⟩) rfl ?_
          replace hP := hP.so (nI (p + 2))
          refine J_iload dX3_readNumber_70 rfl ?_
          exact J_iret dX3_readNumber_72 rfl ⟨rfl, Nat.le_refl _⟩ (hQ _ _ (p + 2) (Or.inr ⟨_, by unfold rN; rw [hv]; dsimp only; rw [hx]; dsimp only; rw [if_neg (by have c55 := (nI_leI (by omega) (by omega)).mp c55; have v0 : v ≠ 0 := fun e => c44 (by rw [e]; rfl); omega)], rfl⟩) ((hF1.mono (by omega) (by omega)).up (by omega) (by omega)) hP)
        · refine J_iload_n dX3_readNumber_58 rfl ?_
          exact J_iret dX3_readNumber_59 rfl ⟨rfl, Nat.le_refl _⟩ (hQ _ _ (p + 1) (Or.inr ⟨v, by unfold rN; rw [hv]; dsimp only; rw [hx]; dsimp only; rw [if_pos (Or.inr (by have c55 : ¬ 10 * v + x ≤ gr := fun q => c55 ((nI_leI (by omega) (by omega)).mpr q); omega))], rfl⟩) (hF1.mono (by omega) (by omega)) hP)
  · refine J_iconst (x := -1) dX3_readNumber_14 (by decide) ?_
    exact J_iret dX3_readNumber_15 rfl ⟨rfl, Nat.le_refl _⟩ (hQ _ h p (Or.inl ⟨by cases z : dg tx p with | none => (unfold rN; rw [z]) | some v => (rw [z] at hr; exact absurd (hr.symm.trans c11) (oI_ne (by have := dg_lt z; omega))), rfl, rfl⟩) Fr.rf hP)
end SText2
