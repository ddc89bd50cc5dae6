/-! the law: the script is cell 0, also for the methods that take it -/
theorem J_sld {M : g_M} {d mc ms u v pc : Nat} {L : List (Option Value)} {S : List Value} {h : g_H} {Q : Option Value → g_H → Prop} {N : Nat} {xs : Nat → Int32} {i : Int32} (hsc : M.2.2.2.2 = some (N, xs)) (hd : decode M.2.1 pc = .ok (.iaload, 1)) (hi : vp_in i N) (kk : J M d mc ms u v (pc + 1) L (.int (xs i.toNatClampNeg) :: S) h Q) : J M d mc ms u v pc L (.int i :: .ref 0 :: S) h Q :=
  fun l D cA ad base hAd p e s m args below meth c Z H locs ls hX hB hE hK hZ hT hS hL => va_sld hX.1 hX.2.1 (hX.2.2.2.2.2.2 _ hsc).1 (hX.2.2.2.2.2.2 _ hsc).2.1 (hX.2.2.2.2.2.2 _ hsc).2.2 hS hi hd (kk l D cA ad base hAd p e s m args below meth c Z H locs ls hX hB hE hK hZ hT hS hL)
theorem J_slen {M : g_M} {d mc ms u v pc : Nat} {L : List (Option Value)} {S : List Value} {h : g_H} {Q : Option Value → g_H → Prop} {N : Nat} {xs : Nat → Int32} (hsc : M.2.2.2.2 = some (N, xs)) (hd : decode M.2.1 pc = .ok (.arraylength, 1)) (kk : J M d mc ms u v (pc + 1) L (.int (Int32.ofNat N) :: S) h Q) : J M d mc ms u v pc L (.ref 0 :: S) h Q :=
  fun l D cA ad base hAd p e s m args below meth c Z H locs ls hX hB hE hK hZ hT hS hL => va_slen hX.1 hX.2.1 (hX.2.2.2.2.2.2 _ hsc).1 (hX.2.2.2.2.2.2 _ hsc).2.1 (hX.2.2.2.2.2.2 _ hsc).2.2 hS hd (kk l D cA ad base hAd p e s m args below meth c Z H locs ls hX hB hE hK hZ hT hS hL)
theorem J_ldc {M : g_M} {d mc ms u v pc : Nat} {L : List (Option Value)} {S : List Value} {h : g_H} {Q : Option Value → g_H → Prop} {n : Nat} {x : Int32} (hd : decode M.2.1 pc = .ok (.ldc n, 2)) (hw : Cond.constant M.1.cls n x ∈ lw_gd) (kk : J M d mc ms u v (pc + 2) L (.int x :: S) h Q) : J M d mc ms u v pc L S h Q :=
  fun l D cA ad base hAd p e s m args below meth c Z H locs ls hX hB hE hK hZ hT hS hL => lv_ldc hX.1 hX.2.1 hX.2.2.2.1 (hX.2.2.2.2.1 _ hw) hd (kk l D cA ad base hAd p e s m args below meth c Z H locs ls hX hB hE hK hZ hT hS hL)
def g_PcX (N : Nat) (xs : Nat → Int32) (D : va_G) (cA : Nat → ClassId) (ad : Nat → Nat) (base : Nat) (args : List Value) (h : g_H) : Array Value → State → Prop := va_Pc (args.map (g_cv ad)) (fun U => (U.heap.size = base + h.2 ∧ g_T D cA ad h U.heap ∧ g_K D cA U) ∧ va_X (ad 0) N xs U U.heap ∧ ad 0 < U.heap.size ∧ ¬ base ≤ ad 0)
def MJX (M : g_M) (N : Nat) (xs : Nat → Int32) (d mc ms : Nat) (args : List Value) (h : g_H) (Q : Option Value → g_H → Prop) : Prop :=
  ∀ (l : Launch) (D : va_G) (cA : Nat → ClassId) (ad : Nat → Nat) (base : Nat), (∀ k, ad (k + 1) = base + k) →
    Met l M.1 (g_w M) (g_rm d mc ms) (g_PcX N xs D cA ad base args h) (g_Qc D cA ad base (h.2 + mc) Q) mc ms (fun q => base ≤ q)
theorem g_blindX {N : Nat} {xs : Nat → Int32} {D : va_G} {cA : Nat → ClassId} {ad : Nat → Nat} {base : Nat} {args : List Value} {h : g_H} : FrameBlind (g_PcX N xs D cA ad base args h) := fun a U g mk q => by
  obtain ⟨q0, ⟨q1, q2, q3⟩, q4, q5, q6⟩ := q
  exact ⟨q0, ⟨q1, q2, g_K.same (u := U) (U := U.calling g mk a) rfl q3⟩, va_X.moved (u := U) (U := U.calling g mk a) (Vm.Alike.refl U.vm) q4, q5, q6⟩
theorem MJX_of_J {M : g_M} {N : Nat} {xs : Nat → Int32} {d mc ms : Nat} {args : List Value} {h : g_H} {Q : Option Value → g_H → Prop} {L : List (Option Value)} (hy : plainName M.1.cls = true) (hsc : M.2.2.2.2 = some (N, xs))
    (hn : (g_al args).length ≤ M.2.2.1) (hL : g_al args ++ List.replicate (M.2.2.1 - (g_al args).length) none = L) (k : J M d mc ms 0 0 0 L [] h Q) : MJX M N xs d mc ms args h Q := by
  intro l D cA ad base hAd
  refine Met.ofW (cc := M.2.1) (maxL := M.2.2.1) (ret := M.2.2.2.1) (ws' := lw_gd) hy rfl ?_
  intro p e s m av below meth c s₁ B hml hv
  obtain ⟨rfl, ⟨hB, hT, hK⟩, hSX⟩ := hv
  have hts := atoms_spec (ws := g_w M) B.pre
  have hown : s.vm.findClass M.1.cls = some m.cls := findClass_of_methodNamed B.named
  have hlocks := B.notSynchronized
  have hname : meth.name = M.1.name := (name_of_methodNamed B.named B.method).1
  have hX : g_X M p s m (args.map (g_cv ad)).toArray meth c ad base := ⟨B.exec, B.bytes, hml, hown, fun w hw => hts w (List.mem_cons_of_mem _ hw), fun e => hname.trans e, fun sc e => by rw [hsc] at e; cases e; exact hSX⟩
  rw [lg_entry_eq]
  have hl0 := lv_entry (args.map (g_cv ad)) (n := M.2.2.1) (by rw [g_sl_len]; exact hn)
  have hl : g_LS ad L _ M.2.2.1 := lv_less hl0 (fun q hq => by
    rw [← hL] at hq
    exact g_al_in ad args _ (fun k v e => by
      have := List.mem_of_getElem? e
      simp at this) 0 q hq)
  refine k l D cA ad base hAd p e s m _ below meth c _ s.heap [] _ hX (by omega) hB hK ?_ hT va_S.rf hl
  intro r st h' pc' H' locs' ls' hQ hr hT' hS' hE'
  have fin : ∀ (t : State), t.heap = H' → s.WarmedH t.vm → g_Qc D cA ad base (h.2 + mc) Q (args.map (g_cv ad)).toArray s (.returned r) t := fun t ht hW =>
    ⟨⟨r, h', by rw [g_cv_ints ad hr], hQ, by omega, by rw [ht]; exact hT', hK.moved hW⟩, hS'.F ht⟩
  rcases hr with ⟨rfl, rfl, e1, e2⟩ | ⟨x, rfl, rfl, e1, e2⟩ | ⟨x, rfl, rfl, e1, e2⟩
  · exact W.vret B.exec B.bytes (B.returns.trans e1) fin hS'.2.2 e2 hlocks
  · rcases e1 with e1 | ⟨e1, e3⟩
    · exact W.iret B.exec B.bytes (B.returns.trans e1) fin hS'.2.2 e2 hlocks
    · exact W.zret B.exec B.bytes (B.returns.trans e1) (by rcases e3 with rfl | rfl <;> decide) fin hS'.2.2 e2 hlocks
  · exact W.lret B.exec B.bytes (B.returns.trans e1) fin hS'.2.2 e2 hlocks
theorem J_callSX {M M' : g_M} {d mc ms u v pc d' mc' ms' u' v' : Nat} {L : List (Option Value)} {S : List Value} {h : g_H} {Q : Option Value → g_H → Prop} {N : Nat} {xs : Nat → Int32} {idx n : Nat} {As rest : List Value} (hsc : M.2.2.2.2 = some (N, xs)) (hd : decode M.2.1 pc = .ok (.invokestatic idx, 3)) (hw : Cond.methodLink M.1.cls idx M'.1 ∈ lw_gd) (hm : g_mth M' n) (hv : Cond.static M'.1 ∈ lw_gd) (hn : As.length = n) (hst : S = As.reverse ++ rest) (hs : (rest.map fun v => v.category).sum ≤ 8) (hr : d' + 1 ≤ d) (hu : u + mc' = u' ∧ v + ms' = v' ∧ u' ≤ mc ∧ v' ≤ ms) (kk : MJX M' N xs d' mc' ms' As h (fun r h' => J M d mc ms u' v' (pc + 3) L (r.toList ++ rest) h' Q)) : J M d mc ms u v pc L S h Q := by
  intro l D cA ad base hAd p e' s m args below meth c Z H locs ls hX hB hE hK hZ hT hS hL
  obtain ⟨rfl, rfl, hu1, hu2⟩ := hu
  obtain ⟨sx1, sx2, sx3⟩ := hX.2.2.2.2.2.2 _ hsc
  subst hst
  intro T0 hT0 X0
  have hz := X0.heapSize
  rw [hT0] at hz
  have hz2 := g_size hAd hE hB hT hS hz
  refine g_call (a := (As.map (g_cv ad)).toArray) (n' := h.2 + mc') (rest := rest.map (g_cv ad)) (va_runS (As := As.map (g_cv ad)) (rest := rest.map (g_cv ad)) ⟨hX.1, hX.2.1, hX.2.2.1, hX.2.2.2.1, hX.2.2.2.2.1⟩ (kk l D cA ad base hAd) ⟨g_callB hX.2.2.2.2.1 hm hw hr, hX.2.2.2.2.1 _ hv⟩ ⟨g_blindX, fun U hU hW => ⟨by rfl, ⟨by rw [hU]; exact hz2, by rw [hU]; exact hT, hK.moved hW⟩, by rw [hU]; exact va_X.kept (va_X.moved hW.alike sx1) (hS.2.1 _ sx2 sx3), by rw [hU]; exact Nat.lt_of_lt_of_le sx2 hS.1, sx3⟩⟩ rfl (by rw [List.length_map]; exact hn) hL.1 (by show List.map _ _ = _; simp [g_cv]) (g_monroom hs) hd ⟨hu1, hu2⟩) hS ?_ T0 hT0 X0
  intro r h' H1 locs1 hq hn' hT' hS'
  have hq2 := hq l D cA ad base hAd p e' s m args below meth c Z H1 locs1 ls hX hB (by rw [hn']; omega) hK hZ hT' hS' hL
  cases r with
  | none => exact hq2
  | some x => exact hq2
section SLaw
variable {h : g_H} {Q : Option Value → g_H → Prop}
theorem s_L_cell {N k : Nat} {xs : Nat → Int32} (hN : N ≤ 260) (hk : k ≤ 100) (hQ : ∀ r, Q (some (.int r)) h) : MJX (m_L_cell N xs) N xs 0 0 0 [.ref 0, .int (nI k)] h Q := by
  refine MJX_of_J (L := [some (.ref 0), some (.int (nI k))]) (show plainName yL_cell.cls = true by decide +kernel) rfl (Nat.le_of_ble_eq_true rfl) rfl ?_
  refine J_iload_n dL_cell_0 rfl ?_
  refine J_aload_n dL_cell_1 rfl ?_
  refine J_slen rfl dL_cell_2 ?_
  refine J_icmp_ge (tgt := 12) dL_cell_3 (by decide) (fun c3 => ?_) (fun c3 => ?_)
  · refine J_ldc dL_cell_12 kc_R_law_7 ?_
    refine J_iload_n dL_cell_14 rfl ?_
    refine J_sipush (x := 929) dL_cell_15 (by decide) ?_
    refine J_iadd dL_cell_18 ?_
    refine J_imul dL_cell_19 ?_
    exact J_iret dL_cell_20 rfl ⟨rfl, Nat.le_refl _⟩ (hQ _)
  · refine J_aload_n dL_cell_6 rfl ?_
    refine J_iload_n dL_cell_7 rfl ?_
    refine J_sld rfl dL_cell_8 (vp_in_nI (Nat.not_le.mp (fun q => c3 ((nI_leI (a := N) (by omega) (by omega)).mpr q))) (by omega)) ?_
    refine J_goto (tgt := 20) dL_cell_9 (by decide) ?_
    exact J_iret dL_cell_20 rfl ⟨rfl, Nat.le_refl _⟩ (hQ _)
theorem s_L_up {v w : Int32} {n : Nat} (hw : w = nI n) (hn : 0 < n) (hn2 : n < 2 ^ 31) (hQ : ∀ k, k < n → Q (some (.int (nI k))) h) : MJ m_L_up 0 0 0 [.int v, .int w] h Q := by
  subst hw
  refine MJ_of_J (L := [some (.int v), some (.int (nI n))]) (by decide +kernel) rfl (Nat.le_of_ble_eq_true rfl) rfl ?_
  refine J_iload_n dL_up_0 rfl ?_
  refine J_ldc dL_up_1 kc_R_law_8 ?_
  refine J_iand dL_up_3 ?_
  obtain ⟨j, hj, e⟩ := pk_andE v (m := 2147483647) 31 (by decide +kernel)
  rw [e]
  refine J_iload_n dL_up_4 rfl ?_
  refine J_irem dL_up_5 (nI_ne0 hn hn2) ?_
  exact J_iret dL_up_6 rfl ⟨rfl, Nat.le_refl _⟩ (by rw [pk_rem hj hn hn2]; exact hQ _ (Nat.mod_lt _ hn))
theorem shl_z : ∀ j, j < 16 → (0 : Int32) <<< (nI j &&& 31) = 0 := by decide +kernel
theorem th_s {x : Int32} {P : Nat → Prop} {t k : Nat} (ht : t < 16) (hk : k < 16) (hx : BS x (fun i => i ^^^ t < k ∧ P (i ^^^ t))) : BS (x ||| (bI (P k) <<< (nI (k ^^^ t) &&& 31))) (fun i => i ^^^ t < k + 1 ∧ P (i ^^^ t)) := by
  rcases Classical.em (P k) with q | q
  · rw [show bI (P k) = 1 by unfold bI; exact if_pos q]
    refine BS.one (xr1 t ht k hk) hx (fun i hi => ⟨fun z => ?_, fun z => ?_⟩)
    · rcases Nat.lt_or_ge (i ^^^ t) k with w | w
      · exact Or.inl ⟨w, z.2⟩
      · have e : i ^^^ t = k := by omega
        exact Or.inr (by rw [← e, xr2 t ht i hi])
    · rcases z with z | z
      · exact ⟨by omega, z.2⟩
      · subst z
        rw [xr2 t ht k hk]
        exact ⟨Nat.lt_succ_self k, q⟩
  · rw [show bI (P k) = 0 by unfold bI; exact if_neg q, shl_z _ (xr1 t ht k hk)]
    have e0 : x ||| 0 = x := Int32.toBitVec_inj.mp (by rw [Int32.toBitVec_or]; exact BitVec.or_zero)
    rw [e0]
    refine fun i => (hx i).trans ⟨fun z => ⟨z.1, by omega, z.2.2⟩, fun z => ⟨z.1, ?_, z.2.2⟩⟩
    rcases Nat.lt_or_ge (i ^^^ t) k with w | w
    · exact w
    · have e : i ^^^ t = k := by have := z.2.1; omega
      exact absurd (show P k by rw [← e]; exact z.2.2) q
theorem l_L_there {r : Int32} {P : Nat → Prop} {t : Nat} (ht : t < 16) (hr : BS r P) (hQ : ∀ x, BS x (fun i => P (i ^^^ t)) → Q (some (.int x)) h) : ∀ (f k : Nat) (x : Int32), 16 - k < f → k ≤ 16 → BS x (fun i => i ^^^ t < k ∧ P (i ^^^ t)) → J m_L_there 0 0 0 0 0 4 [some (.int r), some (.int (nI t)), some (.int x), some (.int (nI k))] [] h Q := by
  intro f
  induction f with
  | zero => intro k x hf; omega
  | succ f ih =>
    intro k x hf hk hx
    refine J_iload_n dL_there_4 rfl ?_
    refine J_bipush (x := 16) dL_there_5 (by decide) ?_
    refine J_icmp_ge (tgt := 28) dL_there_7 (by decide) (fun c7 => ?_) (fun c7 => ?_)
    · refine J_iload_n dL_there_28 rfl ?_
      exact J_iret dL_there_29 rfl ⟨rfl, Nat.le_refl _⟩ (hQ x (fun i => (hx i).trans ⟨fun z => ⟨z.1, z.2.2⟩, fun z => ⟨z.1, by have := xr1 t ht i z.1; have c7 := (nI_leI (a := 16) (b := k) (by omega) (by omega)).mp c7; omega, z.2⟩⟩))
    · have c7 : k < 16 := Nat.not_le.mp (fun q => c7 ((nI_leI (a := 16) (b := k) (by omega) (by omega)).mpr q))
      refine J_iload_n dL_there_10 rfl ?_
      refine J_iload_n dL_there_11 rfl ?_
      refine J_iload_n dL_there_12 rfl ?_
      refine J_ishr dL_there_13 ?_
      refine J_iconst (x := 1) dL_there_14 (by decide) ?_
      refine J_iand dL_there_15 ?_
      rw [BS_bit hr c7]
      refine J_iload_n dL_there_16 rfl ?_
      refine J_iload_n dL_there_17 rfl ?_
      refine J_ixor dL_there_18 ?_
      rw [xrI t ht k c7]
      refine J_ishl dL_there_19 ?_
      refine J_ior dL_there_20 ?_
      refine J_istore_n (L' := [_, _, _, _]) dL_there_21 (by decide) rfl ?_
      refine J_iinc (L' := [_, _, _, _]) dL_there_22 rfl (nI_i1 k) (by decide) rfl ?_
      refine J_goto (tgt := 4) dL_there_25 (by decide) ?_
      exact ih (k + 1) _ (by omega) (by omega) (th_s ht c7 hx)
theorem s_L_there {r : Int32} {P : Nat → Prop} {t : Nat} (ht : t < 16) (hr : BS r P) (hQ : ∀ x, BS x (fun i => P (i ^^^ t)) → Q (some (.int x)) h) : MJ m_L_there 0 0 0 [.int r, .int (nI t)] h Q := by
  refine MJ_of_J (L := [some (.int r), some (.int (nI t)), none, none]) (by decide +kernel) rfl (Nat.le_of_ble_eq_true rfl) rfl ?_
  refine J_iconst (x := 0) dL_there_0 (by decide) ?_
  refine J_istore_n (L' := [_, _, _, _]) dL_there_1 (by decide) rfl ?_
  refine J_iconst (x := 0) dL_there_2 (by decide) ?_
  refine J_istore_n (L' := [_, _, _, _]) dL_there_3 (by decide) rfl ?_
  exact l_L_there ht hr hQ 17 0 0 (by omega) (by omega) (fun i => ⟨fun z => by simp at z, fun z => absurd z.2.1 (Nat.not_lt_zero _)⟩)
end SLaw
