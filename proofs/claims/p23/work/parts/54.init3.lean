section SInit3
variable {h h' : g_H} {Q : Option Value → g_H → Prop}
theorem g_up_id {h : g_H} {k : Nat} {c : g_C} (e : h.1 k = c) : g_up h k c = h := by
  unfold g_up
  refine Prod.ext (funext (fun j => ?_)) rfl
  show (if j = k then c else h.1 j) = h.1 j
  by_cases q : j = k
  · rw [if_pos q, q, e]
  · rw [if_neg q]
theorem l_X1_init (hp1 : 1 ≤ h.2) (hQ : ∀ h', NW h h' 21 (fun H => HA H h.2 []) → Q none h') : ∀ (t k u v : Nat) (h1 : g_H) (f : Nat → Option Nat), 4 - k < t → k ≤ 4 → u = 1 + 5 * k → v = 4 + 165 * k → h1.2 = h.2 + 1 + 5 * k → h1.1 h.2 = .inr (1, [.ref (h.2 + 1), .int 0]) → h1.1 (h.2 + 1) = .inl (2, 4, .inr (.inr (.inr (.inr f)))) → (∀ j, j < h.2 → h1.1 j = h.1 j) → (∀ i, i < k → f i = some (h.2 + 2 + 5 * i)) → (∀ i, i < k → ST h1 (h.2 + 2) (fun H => LA H (h.2 + 2 + 5 * i) [])) → J m_X1_init 2 21 664 u v 14 [some (.ref h.2), some (.int (nI k))] [] h1 Q := by
  intro t
  induction t with
  | zero => intro k u v h1 f ht; omega
  | succ t ih =>
    intro k u v h1 f ht hk hu hv y o ar p hf hs
    refine J_iload_n dX1_init_14 rfl ?_
    refine J_iconst (x := 4) dX1_init_15 (by decide) ?_
    refine J_icmp_ge (tgt := 38) dX1_init_16 (by decide) (fun c16 => ?_) (fun c16 => ?_)
    · exact J_vret dX1_init_38 rfl (by have c16 := (nI_leI (a := 4) (b := k) (by omega) (by omega)).mp c16; exact ⟨by omega, by omega⟩) (by
      have c16 := (nI_leI (a := 4) (b := k) (by omega) (by omega)).mp c16
      obtain rfl : k = 4 := by omega
      exact hQ h1 ⟨by omega, p, fun H e1 e2 => ⟨by simp, f, ⟨⟨hp1, by omega⟩, (e2 h.2 (Nat.le_refl _) (by omega)).trans o, (e2 (h.2 + 1) (by omega) (by omega)).trans ar⟩, fun i => i, fun i hi => ⟨hi, hf i hi⟩, fun i _ j _ q => q, fun i hi => ⟨[], hs i hi H e1 (fun j q1 q2 => e2 j (by omega) q2), fun q e => by simp at e⟩⟩⟩)
    · have c16 : k < 4 := Nat.not_le.mp (fun q => c16 ((nI_leI (a := 4) (b := k) (by omega) (by omega)).mpr q))
      refine J_aload_n dX1_init_19 rfl ?_
      refine J_get (k := 0) dX1_init_20 gc_1 fl_RX1_11 (by decide) o ⟨hp1, by omega⟩ rfl ?_
      refine J_iload_n dX1_init_23 rfl ?_
      refine J_new (fs := [.null, .null, .null, .null, .int 0]) dX1_init_24 gc_4 cl_RX1_9 ins_RX4 ini_LivedLinks_Links (fun j hj ad => by rcases (show j = 0 ∨ j = 1 ∨ j = 2 ∨ j = 3 ∨ j = 4 by omega) with rfl | rfl | rfl | rfl | rfl <;> rfl) ⟨by omega, by omega⟩ ?_
      refine J_dup dX1_init_27 rfl ?_
      refine J_callIN (As := []) (rest := [_, _, _]) (M' := m_X4_init) dX1_init_28 ml_RX1_17 gm_X4_init ⟨rfl, im_yX4_init⟩ rfl rfl rfl (Nat.le_of_ble_eq_true rfl) (by decide) ⟨rfl, rfl, by omega, by omega⟩ (s_X4_init (h := g_push _ _) (by show 1 ≤ h1.2 + 1; omega) (g_push_s _ _) (fun h2 w2 => ?_))
      have hla : LA h2 (h1.2 + 1) [] := w2.2.2 h2 (Nat.le_refl _) (fun _ _ _ => rfl)
      have y2 : h2.2 = h.2 + 1 + 5 * (k + 1) := by have := w2.sz; omega
      have o2 : h2.1 h.2 = .inr (1, [.ref (h.2 + 1), .int 0]) := (w2.at (by omega)).trans o
      have ar2 : h2.1 (h.2 + 1) = .inl (2, 4, .inr (.inr (.inr (.inr f)))) := (w2.at (by omega)).trans ar
      have p2 : ∀ j, j < h.2 → h2.1 j = h.1 j := fun j hj => (w2.at (by omega)).trans (p j hj)
      have hs2 : ∀ i, i < k + 1 → ST h2 (h.2 + 2) (fun H => LA H (h.2 + 2 + 5 * i) []) := fun i hi => by
        by_cases q : i < k
        · exact (hs i q).nw w2
        · obtain rfl : i = k := by omega
          exact (ST.of w2 (by omega)).im (fun H q => by have q : LA H (h1.2 + 1) [] := q; rwa [show h1.2 + 1 = h.2 + 2 + 5 * i by omega] at q)
      refine J_aast dX1_init_31 ar2 ⟨by omega, by omega⟩ (vp_in_nI (by omega) (by decide)) hla.o hla.b ?_
      rw [nI_clamp (n := k) (by omega)]
      refine J_iinc (L' := [_, _]) dX1_init_32 rfl (nI_i1 k) (by decide) rfl ?_
      refine J_goto (tgt := 14) dX1_init_35 (by decide) ?_
      exact ih (k + 1) _ _ _ (va_up f k (some (h1.2 + 1))) (by omega) (by omega) (by omega) (by omega) y2 ((g_up_n _ _ (by omega)).trans o2) (g_up_s _ _ _) (fun j hj => (g_up_n _ _ (by omega)).trans (p2 j hj)) (fun i hi => by
        by_cases q : i = k
        · subst q; simp [va_up]; omega
        · simp [va_up, q]; exact hf i (by omega)) (fun i hi => (hs2 i hi).up (by omega))
theorem s_X1_init (hp1 : 1 ≤ h.2) (ho : h.1 h.2 = .inr (1, [.null, .int 0])) (hQ : ∀ h', NW h h' 21 (fun H => HA H h.2 []) → Q none h') : MJ m_X1_init 2 21 664 [.ref h.2] h Q := by
  refine MJ_of_J (L := [some (.ref h.2), none]) (by decide +kernel) rfl (Nat.le_of_ble_eq_true rfl) rfl ?_
  refine J_aload_n dX1_init_0 rfl ?_
  refine J_objInit dX1_init_1 ml_RX1_3 im_objectInit co_objectInit (by decide) (Nat.le_of_ble_eq_true rfl) ?_
  refine J_aload_n dX1_init_4 rfl ?_
  refine J_iconst (x := 4) dX1_init_5 (by decide) ?_
  refine J_newq (N := 4) dX1_init_6 cl_RX1_9 (by decide) (by decide) (by decide) ⟨by decide, by decide⟩ ?_
  refine J_putF (k := 0) dX1_init_9 gc_1 fl_RX1_11 (by decide) rfl (fs := [.null, .int 0]) (by simp [g_push, ho]) ⟨hp1, by simp only [g_push]; omega⟩ (Nat.le_of_ble_eq_true rfl) rfl rfl (fun _ => ⟨rfl, rfl⟩) rfl ?_
  refine J_iconst (x := 0) dX1_init_12 (by decide) ?_
  refine J_istore_n (L' := [_, _]) dX1_init_13 (by decide) rfl ?_
  exact l_X1_init hp1 hQ 5 0 _ _ _ (fun _ => none) (by omega) (by omega) rfl rfl rfl (g_up_s _ _ _) (by rw [g_up_n _ _ (by omega)]; exact g_push_s _ _) (fun j hj => (g_up_n _ _ (by omega)).trans (g_push_n _ _ (by omega))) (fun i hi => by omega) (fun i hi => by omega)
theorem s_X8_init (hp1 : 1 ≤ h.2) (ho : h.1 h.2 = .inr (8, [.int 0, .int 0, .int 0, .int 0, .int 0, .int 0])) (hQ : ∀ h', NW h h' 0 (fun H => RA H h.2) → Q none h') : MJ m_X8_init 1 0 0 [.ref h.2] h Q := by
  refine MJ_of_J (L := [some (.ref h.2)]) (by decide +kernel) rfl (Nat.le_of_ble_eq_true rfl) rfl ?_
  refine J_aload_n dX8_init_0 rfl ?_
  refine J_objInit dX8_init_1 ml_RX8_3 im_objectInit co_objectInit (by decide) (Nat.le_of_ble_eq_true rfl) ?_
  exact J_vret dX8_init_4 rfl ⟨rfl, Nat.le_refl _⟩ (hQ h ⟨rfl, fun _ _ => rfl, fun H e1 e2 => ⟨0, 0, 0, 0, 0, 0, ⟨hp1, e1⟩, (e2 h.2 (Nat.le_refl _) (Nat.le_refl _)).trans ho⟩⟩)
theorem b7_X6_init {h7 : g_H} (hp1 : 1 ≤ h.2) (hQ : ∀ h', NW h h' 55 (fun H => CI H h.2 ([], [], none, [])) → Q none h') (y7b : h7.2 = h.2 + 49) (o7 : h7.1 h.2 = .inr (6, [.ref (h.2 + 1), .ref (h.2 + 6), .int 0, .ref (h.2 + 11), .ref (h.2 + 33), .ref (h.2 + 35), .ref (h.2 + 40), .ref (h.2 + 49), .null])) (p7 : ∀ k, k < h.2 → h7.1 k = h.1 k) (s1 : ST h7 (h.2 + 1) (fun H => LA H (h.2 + 1) [])) (s2 : ST h7 (h.2 + 1) (fun H => LA H (h.2 + 6) [])) (s3 : ST h7 (h.2 + 1) (fun H => HA H (h.2 + 11) [])) (s4 : ST h7 (h.2 + 1) (fun H => TP H (h.2 + 33) [] 0)) (s5 : ST h7 (h.2 + 1) (fun H => LA H (h.2 + 35) [])) (s6 : ST h7 (h.2 + 1) (fun H => MA H (h.2 + 40))) (s7 : ST h7 (h.2 + 1) (fun H => RA H (h.2 + 49))) : J m_X6_init 3 55 1450 49 1384 86 [some (.ref h.2)] [] h7 Q := by
  refine J_aload_n dX6_init_86 rfl ?_
  refine J_new (fs := [.null, .null, .int 0, .int 0, .int 0, .int 0, .int 0]) dX6_init_87 gc_0 cl_RX6_54 ins_RX0 ini_LivedLinks_HalvesWay (fun j hj ad => by rcases (show j = 0 ∨ j = 1 ∨ j = 2 ∨ j = 3 ∨ j = 4 ∨ j = 5 ∨ j = 6 by omega) with rfl | rfl | rfl | rfl | rfl | rfl | rfl <;> rfl) ⟨by decide, by decide⟩ ?_
  refine J_dup dX6_init_90 rfl ?_
  refine J_callIN (As := []) (rest := [_, _]) (M' := m_X0_init) dX6_init_91 ml_RX6_56 gm_X0_init ⟨rfl, im_yX0_init⟩ rfl rfl rfl (Nat.le_of_ble_eq_true rfl) (by decide) ⟨rfl, rfl, by decide, by decide⟩ (s_X0_init (h := g_push _ _) (by show 1 ≤ h7.2 + 1; omega) (g_push_s _ _) (fun h8a w8 => ?_))
  have y8 : h8a.2 = h.2 + 55 := by have := w8.sz; omega
  have o8a : h8a.1 h.2 = .inr (6, [.ref (h.2 + 1), .ref (h.2 + 6), .int 0, .ref (h.2 + 11), .ref (h.2 + 33), .ref (h.2 + 35), .ref (h.2 + 40), .ref (h.2 + 49), .null]) := (w8.at (by omega)).trans o7
  have p8a : ∀ k, k < h.2 → h8a.1 k = h.1 k := fun k hk => (w8.at (by omega)).trans (p7 k hk)
  replace s1 := s1.nw w8
  replace s2 := s2.nw w8
  replace s3 := s3.nw w8
  replace s4 := s4.nw w8
  replace s5 := s5.nw w8
  replace s6 := s6.nw w8
  replace s7 := s7.nw w8
  have s8 : ST h8a (h.2 + 1) (fun H => ∃ (x1 x2 x3 x4 x5 : Int32) (g : Nat → Int32) (js : List (Nat × Nat)), HR H (h.2 + 50) x1 x2 x3 x4 x5 g ∧ JA H ((h.2 + 50) + 1) 16 js) := (ST.of w8 (by omega)).im (fun H q => by have q : ∃ (x1 x2 x3 x4 x5 : Int32) (g : Nat → Int32) (js : List (Nat × Nat)), HR H (h7.2 + 1) x1 x2 x3 x4 x5 g ∧ JA H ((h7.2 + 1) + 1) 16 js := q; rwa [show h7.2 + 1 = h.2 + 50 by omega] at q)
  rw [show h7.2 + 1 = h.2 + 50 by omega]
  refine J_putF (k := 8) dX6_init_94 gc_6 fl_RX6_57 (by decide) rfl o8a ⟨hp1, by omega⟩ (Nat.le_of_ble_eq_true rfl) rfl rfl (fun _ => ⟨rfl, rfl⟩) rfl ?_
  obtain ⟨h8, e8⟩ : ∃ x, x = g_up h8a h.2 (.inr (6, [.ref (h.2 + 1), .ref (h.2 + 6), .int 0, .ref (h.2 + 11), .ref (h.2 + 33), .ref (h.2 + 35), .ref (h.2 + 40), .ref (h.2 + 49), .ref (h.2 + 50)])) := ⟨_, rfl⟩
  have y8b : h8.2 = h.2 + 55 := by rw [e8]; exact y8
  have o8 : h8.1 h.2 = .inr (6, [.ref (h.2 + 1), .ref (h.2 + 6), .int 0, .ref (h.2 + 11), .ref (h.2 + 33), .ref (h.2 + 35), .ref (h.2 + 40), .ref (h.2 + 49), .ref (h.2 + 50)]) := by rw [e8]; exact g_up_s _ _ _
  have p8 : ∀ k, k < h.2 → h8.1 k = h.1 k := fun k hk => by rw [e8, g_up_n _ _ (by omega)]; exact p8a k hk
  replace s1 := s1.up (a := h.2) (c := .inr (6, [.ref (h.2 + 1), .ref (h.2 + 6), .int 0, .ref (h.2 + 11), .ref (h.2 + 33), .ref (h.2 + 35), .ref (h.2 + 40), .ref (h.2 + 49), .ref (h.2 + 50)])) (by omega)
  rw [← e8] at s1
  replace s2 := s2.up (a := h.2) (c := .inr (6, [.ref (h.2 + 1), .ref (h.2 + 6), .int 0, .ref (h.2 + 11), .ref (h.2 + 33), .ref (h.2 + 35), .ref (h.2 + 40), .ref (h.2 + 49), .ref (h.2 + 50)])) (by omega)
  rw [← e8] at s2
  replace s3 := s3.up (a := h.2) (c := .inr (6, [.ref (h.2 + 1), .ref (h.2 + 6), .int 0, .ref (h.2 + 11), .ref (h.2 + 33), .ref (h.2 + 35), .ref (h.2 + 40), .ref (h.2 + 49), .ref (h.2 + 50)])) (by omega)
  rw [← e8] at s3
  replace s4 := s4.up (a := h.2) (c := .inr (6, [.ref (h.2 + 1), .ref (h.2 + 6), .int 0, .ref (h.2 + 11), .ref (h.2 + 33), .ref (h.2 + 35), .ref (h.2 + 40), .ref (h.2 + 49), .ref (h.2 + 50)])) (by omega)
  rw [← e8] at s4
  replace s5 := s5.up (a := h.2) (c := .inr (6, [.ref (h.2 + 1), .ref (h.2 + 6), .int 0, .ref (h.2 + 11), .ref (h.2 + 33), .ref (h.2 + 35), .ref (h.2 + 40), .ref (h.2 + 49), .ref (h.2 + 50)])) (by omega)
  rw [← e8] at s5
  replace s6 := s6.up (a := h.2) (c := .inr (6, [.ref (h.2 + 1), .ref (h.2 + 6), .int 0, .ref (h.2 + 11), .ref (h.2 + 33), .ref (h.2 + 35), .ref (h.2 + 40), .ref (h.2 + 49), .ref (h.2 + 50)])) (by omega)
  rw [← e8] at s6
  replace s7 := s7.up (a := h.2) (c := .inr (6, [.ref (h.2 + 1), .ref (h.2 + 6), .int 0, .ref (h.2 + 11), .ref (h.2 + 33), .ref (h.2 + 35), .ref (h.2 + 40), .ref (h.2 + 49), .ref (h.2 + 50)])) (by omega)
  rw [← e8] at s7
  replace s8 := s8.up (a := h.2) (c := .inr (6, [.ref (h.2 + 1), .ref (h.2 + 6), .int 0, .ref (h.2 + 11), .ref (h.2 + 33), .ref (h.2 + 35), .ref (h.2 + 40), .ref (h.2 + 49), .ref (h.2 + 50)])) (by omega)
  rw [← e8] at s8
  have hh8 := e8
  change J _ _ _ _ _ _ _ _ _ (g_up h8a h.2 (.inr (6, [.ref (h.2 + 1), .ref (h.2 + 6), .int 0, .ref (h.2 + 11), .ref (h.2 + 33), .ref (h.2 + 35), .ref (h.2 + 40), .ref (h.2 + 49), .ref (h.2 + 50)]))) Q
  rw [← e8]
  exact J_vret dX6_init_97 rfl ⟨rfl, Nat.le_refl _⟩ (hQ h8 ⟨y8b, p8, fun H e1 e2 => ⟨⟨hp1, by omega⟩, (e2 h.2 (Nat.le_refl _) (by omega)).trans o8, (s1 H (by omega) (fun k q1 q2 => e2 k (by omega) (by omega))), ⟨[], (s2 H (by omega) (fun k q1 q2 => e2 k (by omega) (by omega))), fun q e => by simp at e⟩, (s3 H (by omega) (fun k q1 q2 => e2 k (by omega) (by omega))), ⟨0, (s4 H (by omega) (fun k q1 q2 => e2 k (by omega) (by omega)))⟩, ⟨[], (s5 H (by omega) (fun k q1 q2 => e2 k (by omega) (by omega)))⟩, (s6 H (by omega) (fun k q1 q2 => e2 k (by omega) (by omega))), (s7 H (by omega) (fun k q1 q2 => e2 k (by omega) (by omega))), (s8 H (by omega) (fun k q1 q2 => e2 k (by omega) (by omega)))⟩⟩)
theorem b6_X6_init {h6 : g_H} (hp1 : 1 ≤ h.2) (hQ : ∀ h', NW h h' 55 (fun H => CI H h.2 ([], [], none, [])) → Q none h') (y6b : h6.2 = h.2 + 48) (o6 : h6.1 h.2 = .inr (6, [.ref (h.2 + 1), .ref (h.2 + 6), .int 0, .ref (h.2 + 11), .ref (h.2 + 33), .ref (h.2 + 35), .ref (h.2 + 40), .null, .null])) (p6 : ∀ k, k < h.2 → h6.1 k = h.1 k) (s1 : ST h6 (h.2 + 1) (fun H => LA H (h.2 + 1) [])) (s2 : ST h6 (h.2 + 1) (fun H => LA H (h.2 + 6) [])) (s3 : ST h6 (h.2 + 1) (fun H => HA H (h.2 + 11) [])) (s4 : ST h6 (h.2 + 1) (fun H => TP H (h.2 + 33) [] 0)) (s5 : ST h6 (h.2 + 1) (fun H => LA H (h.2 + 35) [])) (s6 : ST h6 (h.2 + 1) (fun H => MA H (h.2 + 40))) : J m_X6_init 3 55 1450 48 1378 75 [some (.ref h.2)] [] h6 Q := by
  refine J_aload_n dX6_init_75 rfl ?_
  refine J_new (fs := [.int 0, .int 0, .int 0, .int 0, .int 0, .int 0]) dX6_init_76 gc_8 cl_RX6_47 ins_RX8 ini_LivedLinks_MomentRows (fun j hj ad => by rcases (show j = 0 ∨ j = 1 ∨ j = 2 ∨ j = 3 ∨ j = 4 ∨ j = 5 by omega) with rfl | rfl | rfl | rfl | rfl | rfl <;> rfl) ⟨by decide, by decide⟩ ?_
  refine J_dup dX6_init_79 rfl ?_
  refine J_callIN (As := []) (rest := [_, _]) (M' := m_X8_init) dX6_init_80 ml_RX6_49 gm_X8_init ⟨rfl, im_yX8_init⟩ rfl rfl rfl (Nat.le_of_ble_eq_true rfl) (by decide) ⟨rfl, rfl, by decide, by decide⟩ (s_X8_init (h := g_push _ _) (by show 1 ≤ h6.2 + 1; omega) (g_push_s _ _) (fun h7a w7 => ?_))
  have y7 : h7a.2 = h.2 + 49 := by have := w7.sz; omega
  have o7a : h7a.1 h.2 = .inr (6, [.ref (h.2 + 1), .ref (h.2 + 6), .int 0, .ref (h.2 + 11), .ref (h.2 + 33), .ref (h.2 + 35), .ref (h.2 + 40), .null, .null]) := (w7.at (by omega)).trans o6
  have p7a : ∀ k, k < h.2 → h7a.1 k = h.1 k := fun k hk => (w7.at (by omega)).trans (p6 k hk)
  replace s1 := s1.nw w7
  replace s2 := s2.nw w7
  replace s3 := s3.nw w7
  replace s4 := s4.nw w7
  replace s5 := s5.nw w7
  replace s6 := s6.nw w7
  have s7 : ST h7a (h.2 + 1) (fun H => RA H (h.2 + 49)) := (ST.of w7 (by omega)).im (fun H q => by have q : RA H (h6.2 + 1) := q; rwa [show h6.2 + 1 = h.2 + 49 by omega] at q)
  rw [show h6.2 + 1 = h.2 + 49 by omega]
  refine J_putF (k := 7) dX6_init_83 gc_6 fl_RX6_50 (by decide) rfl o7a ⟨hp1, by omega⟩ (Nat.le_of_ble_eq_true rfl) rfl rfl (fun _ => ⟨rfl, rfl⟩) rfl ?_
  obtain ⟨h7, e7⟩ : ∃ x, x = g_up h7a h.2 (.inr (6, [.ref (h.2 + 1), .ref (h.2 + 6), .int 0, .ref (h.2 + 11), .ref (h.2 + 33), .ref (h.2 + 35), .ref (h.2 + 40), .ref (h.2 + 49), .null])) := ⟨_, rfl⟩
  have y7b : h7.2 = h.2 + 49 := by rw [e7]; exact y7
  have o7 : h7.1 h.2 = .inr (6, [.ref (h.2 + 1), .ref (h.2 + 6), .int 0, .ref (h.2 + 11), .ref (h.2 + 33), .ref (h.2 + 35), .ref (h.2 + 40), .ref (h.2 + 49), .null]) := by rw [e7]; exact g_up_s _ _ _
  have p7 : ∀ k, k < h.2 → h7.1 k = h.1 k := fun k hk => by rw [e7, g_up_n _ _ (by omega)]; exact p7a k hk
  replace s1 := s1.up (a := h.2) (c := .inr (6, [.ref (h.2 + 1), .ref (h.2 + 6), .int 0, .ref (h.2 + 11), .ref (h.2 + 33), .ref (h.2 + 35), .ref (h.2 + 40), .ref (h.2 + 49), .null])) (by omega)
  rw [← e7] at s1
  replace s2 := s2.up (a := h.2) (c := .inr (6, [.ref (h.2 + 1), .ref (h.2 + 6), .int 0, .ref (h.2 + 11), .ref (h.2 + 33), .ref (h.2 + 35), .ref (h.2 + 40), .ref (h.2 + 49), .null])) (by omega)
  rw [← e7] at s2
  replace s3 := s3.up (a := h.2) (c := .inr (6, [.ref (h.2 + 1), .ref (h.2 + 6), .int 0, .ref (h.2 + 11), .ref (h.2 + 33), .ref (h.2 + 35), .ref (h.2 + 40), .ref (h.2 + 49), .null])) (by omega)
  rw [← e7] at s3
  replace s4 := s4.up (a := h.2) (c := .inr (6, [.ref (h.2 + 1), .ref (h.2 + 6), .int 0, .ref (h.2 + 11), .ref (h.2 + 33), .ref (h.2 + 35), .ref (h.2 + 40), .ref (h.2 + 49), .null])) (by omega)
  rw [← e7] at s4
  replace s5 := s5.up (a := h.2) (c := .inr (6, [.ref (h.2 + 1), .ref (h.2 + 6), .int 0, .ref (h.2 + 11), .ref (h.2 + 33), .ref (h.2 + 35), .ref (h.2 + 40), .ref (h.2 + 49), .null])) (by omega)
  rw [← e7] at s5
  replace s6 := s6.up (a := h.2) (c := .inr (6, [.ref (h.2 + 1), .ref (h.2 + 6), .int 0, .ref (h.2 + 11), .ref (h.2 + 33), .ref (h.2 + 35), .ref (h.2 + 40), .ref (h.2 + 49), .null])) (by omega)
  rw [← e7] at s6
  replace s7 := s7.up (a := h.2) (c := .inr (6, [.ref (h.2 + 1), .ref (h.2 + 6), .int 0, .ref (h.2 + 11), .ref (h.2 + 33), .ref (h.2 + 35), .ref (h.2 + 40), .ref (h.2 + 49), .null])) (by omega)
  rw [← e7] at s7
  have hh7 := e7
  change J _ _ _ _ _ _ _ _ _ (g_up h7a h.2 (.inr (6, [.ref (h.2 + 1), .ref (h.2 + 6), .int 0, .ref (h.2 + 11), .ref (h.2 + 33), .ref (h.2 + 35), .ref (h.2 + 40), .ref (h.2 + 49), .null]))) Q
  rw [← e7]
  exact b7_X6_init hp1 hQ y7b o7 p7 s1 s2 s3 s4 s5 s6 s7
theorem b5_X6_init {h5 : g_H} (hp1 : 1 ≤ h.2) (hQ : ∀ h', NW h h' 55 (fun H => CI H h.2 ([], [], none, [])) → Q none h') (y5b : h5.2 = h.2 + 39) (o5 : h5.1 h.2 = .inr (6, [.ref (h.2 + 1), .ref (h.2 + 6), .int 0, .ref (h.2 + 11), .ref (h.2 + 33), .ref (h.2 + 35), .null, .null, .null])) (p5 : ∀ k, k < h.2 → h5.1 k = h.1 k) (s1 : ST h5 (h.2 + 1) (fun H => LA H (h.2 + 1) [])) (s2 : ST h5 (h.2 + 1) (fun H => LA H (h.2 + 6) [])) (s3 : ST h5 (h.2 + 1) (fun H => HA H (h.2 + 11) [])) (s4 : ST h5 (h.2 + 1) (fun H => TP H (h.2 + 33) [] 0)) (s5 : ST h5 (h.2 + 1) (fun H => LA H (h.2 + 35) [])) : J m_X6_init 3 55 1450 39 1224 64 [some (.ref h.2)] [] h5 Q := by
  refine J_aload_n dX6_init_64 rfl ?_
  refine J_new (fs := [.null, .null]) dX6_init_65 gc_5 cl_RX6_40 ins_RX5 ini_LivedLinks_Moments (fun j hj ad => by rcases (show j = 0 ∨ j = 1 by omega) with rfl | rfl <;> rfl) ⟨by decide, by decide⟩ ?_
  refine J_dup dX6_init_68 rfl ?_
  refine J_callIN (As := []) (rest := [_, _]) (M' := m_X5_init) dX6_init_69 ml_RX6_42 gm_X5_init ⟨rfl, im_yX5_init⟩ rfl rfl rfl (Nat.le_of_ble_eq_true rfl) (by decide) ⟨rfl, rfl, by decide, by decide⟩ (s_X5_init (h := g_push _ _) (by show 1 ≤ h5.2 + 1; omega) (g_push_s _ _) (fun h6a w6 => ?_))
  have y6 : h6a.2 = h.2 + 48 := by have := w6.sz; omega
  have o6a : h6a.1 h.2 = .inr (6, [.ref (h.2 + 1), .ref (h.2 + 6), .int 0, .ref (h.2 + 11), .ref (h.2 + 33), .ref (h.2 + 35), .null, .null, .null]) := (w6.at (by omega)).trans o5
  have p6a : ∀ k, k < h.2 → h6a.1 k = h.1 k := fun k hk => (w6.at (by omega)).trans (p5 k hk)
  replace s1 := s1.nw w6
  replace s2 := s2.nw w6
  replace s3 := s3.nw w6
  replace s4 := s4.nw w6
  replace s5 := s5.nw w6
  have s6 : ST h6a (h.2 + 1) (fun H => MA H (h.2 + 40)) := (ST.of w6 (by omega)).im (fun H q => by have q : MA H (h5.2 + 1) := q; rwa [show h5.2 + 1 = h.2 + 40 by omega] at q)
  rw [show h5.2 + 1 = h.2 + 40 by omega]
  refine J_putF (k := 6) dX6_init_72 gc_6 fl_RX6_43 (by decide) rfl o6a ⟨hp1, by omega⟩ (Nat.le_of_ble_eq_true rfl) rfl rfl (fun _ => ⟨rfl, rfl⟩) rfl ?_
  obtain ⟨h6, e6⟩ : ∃ x, x = g_up h6a h.2 (.inr (6, [.ref (h.2 + 1), .ref (h.2 + 6), .int 0, .ref (h.2 + 11), .ref (h.2 + 33), .ref (h.2 + 35), .ref (h.2 + 40), .null, .null])) := ⟨_, rfl⟩
  have y6b : h6.2 = h.2 + 48 := by rw [e6]; exact y6
  have o6 : h6.1 h.2 = .inr (6, [.ref (h.2 + 1), .ref (h.2 + 6), .int 0, .ref (h.2 + 11), .ref (h.2 + 33), .ref (h.2 + 35), .ref (h.2 + 40), .null, .null]) := by rw [e6]; exact g_up_s _ _ _
  have p6 : ∀ k, k < h.2 → h6.1 k = h.1 k := fun k hk => by rw [e6, g_up_n _ _ (by omega)]; exact p6a k hk
  replace s1 := s1.up (a := h.2) (c := .inr (6, [.ref (h.2 + 1), .ref (h.2 + 6), .int 0, .ref (h.2 + 11), .ref (h.2 + 33), .ref (h.2 + 35), .ref (h.2 + 40), .null, .null])) (by omega)
  rw [← e6] at s1
  replace s2 := s2.up (a := h.2) (c := .inr (6, [.ref (h.2 + 1), .ref (h.2 + 6), .int 0, .ref (h.2 + 11), .ref (h.2 + 33), .ref (h.2 + 35), .ref (h.2 + 40), .null, .null])) (by omega)
  rw [← e6] at s2
  replace s3 := s3.up (a := h.2) (c := .inr (6, [.ref (h.2 + 1), .ref (h.2 + 6), .int 0, .ref (h.2 + 11), .ref (h.2 + 33), .ref (h.2 + 35), .ref (h.2 + 40), .null, .null])) (by omega)
  rw [← e6] at s3
  replace s4 := s4.up (a := h.2) (c := .inr (6, [.ref (h.2 + 1), .ref (h.2 + 6), .int 0, .ref (h.2 + 11), .ref (h.2 + 33), .ref (h.2 + 35), .ref (h.2 + 40), .null, .null])) (by omega)
  rw [← e6] at s4
  replace s5 := s5.up (a := h.2) (c := .inr (6, [.ref (h.2 + 1), .ref (h.2 + 6), .int 0, .ref (h.2 + 11), .ref (h.2 + 33), .ref (h.2 + 35), .ref (h.2 + 40), .null, .null])) (by omega)
  rw [← e6] at s5
  replace s6 := s6.up (a := h.2) (c := .inr (6, [.ref (h.2 + 1), .ref (h.2 + 6), .int 0, .ref (h.2 + 11), .ref (h.2 + 33), .ref (h.2 + 35), .ref (h.2 + 40), .null, .null])) (by omega)
  rw [← e6] at s6
  have hh6 := e6
  change J _ _ _ _ _ _ _ _ _ (g_up h6a h.2 (.inr (6, [.ref (h.2 + 1), .ref (h.2 + 6), .int 0, .ref (h.2 + 11), .ref (h.2 + 33), .ref (h.2 + 35), .ref (h.2 + 40), .null, .null]))) Q
  rw [← e6]
  exact b6_X6_init hp1 hQ y6b o6 p6 s1 s2 s3 s4 s5 s6
theorem b4_X6_init {h4 : g_H} (hp1 : 1 ≤ h.2) (hQ : ∀ h', NW h h' 55 (fun H => CI H h.2 ([], [], none, [])) → Q none h') (y4b : h4.2 = h.2 + 34) (o4 : h4.1 h.2 = .inr (6, [.ref (h.2 + 1), .ref (h.2 + 6), .int 0, .ref (h.2 + 11), .ref (h.2 + 33), .null, .null, .null, .null])) (p4 : ∀ k, k < h.2 → h4.1 k = h.1 k) (s1 : ST h4 (h.2 + 1) (fun H => LA H (h.2 + 1) [])) (s2 : ST h4 (h.2 + 1) (fun H => LA H (h.2 + 6) [])) (s3 : ST h4 (h.2 + 1) (fun H => HA H (h.2 + 11) [])) (s4 : ST h4 (h.2 + 1) (fun H => TP H (h.2 + 33) [] 0)) : J m_X6_init 3 55 1450 34 1059 53 [some (.ref h.2)] [] h4 Q := by
  refine J_aload_n dX6_init_53 rfl ?_
  refine J_new (fs := [.null, .null, .null, .null, .int 0]) dX6_init_54 gc_4 cl_RX6_7 ins_RX4 ini_LivedLinks_Links (fun j hj ad => by rcases (show j = 0 ∨ j = 1 ∨ j = 2 ∨ j = 3 ∨ j = 4 by omega) with rfl | rfl | rfl | rfl | rfl <;> rfl) ⟨by decide, by decide⟩ ?_
  refine J_dup dX6_init_57 rfl ?_
  refine J_callIN (As := []) (rest := [_, _]) (M' := m_X4_init) dX6_init_58 ml_RX6_9 gm_X4_init ⟨rfl, im_yX4_init⟩ rfl rfl rfl (Nat.le_of_ble_eq_true rfl) (by decide) ⟨rfl, rfl, by decide, by decide⟩ (s_X4_init (h := g_push _ _) (by show 1 ≤ h4.2 + 1; omega) (g_push_s _ _) (fun h5a w5 => ?_))
  have y5 : h5a.2 = h.2 + 39 := by have := w5.sz; omega
  have o5a : h5a.1 h.2 = .inr (6, [.ref (h.2 + 1), .ref (h.2 + 6), .int 0, .ref (h.2 + 11), .ref (h.2 + 33), .null, .null, .null, .null]) := (w5.at (by omega)).trans o4
  have p5a : ∀ k, k < h.2 → h5a.1 k = h.1 k := fun k hk => (w5.at (by omega)).trans (p4 k hk)
  replace s1 := s1.nw w5
  replace s2 := s2.nw w5
  replace s3 := s3.nw w5
  replace s4 := s4.nw w5
  have s5 : ST h5a (h.2 + 1) (fun H => LA H (h.2 + 35) []) := (ST.of w5 (by omega)).im (fun H q => by have q : LA H (h4.2 + 1) [] := q; rwa [show h4.2 + 1 = h.2 + 35 by omega] at q)
  rw [show h4.2 + 1 = h.2 + 35 by omega]
  refine J_putF (k := 5) dX6_init_61 gc_6 fl_RX6_37 (by decide) rfl o5a ⟨hp1, by omega⟩ (Nat.le_of_ble_eq_true rfl) rfl rfl (fun _ => ⟨rfl, rfl⟩) rfl ?_
  obtain ⟨h5, e5⟩ : ∃ x, x = g_up h5a h.2 (.inr (6, [.ref (h.2 + 1), .ref (h.2 + 6), .int 0, .ref (h.2 + 11), .ref (h.2 + 33), .ref (h.2 + 35), .null, .null, .null])) := ⟨_, rfl⟩
  have y5b : h5.2 = h.2 + 39 := by rw [e5]; exact y5
  have o5 : h5.1 h.2 = .inr (6, [.ref (h.2 + 1), .ref (h.2 + 6), .int 0, .ref (h.2 + 11), .ref (h.2 + 33), .ref (h.2 + 35), .null, .null, .null]) := by rw [e5]; exact g_up_s _ _ _
  have p5 : ∀ k, k < h.2 → h5.1 k = h.1 k := fun k hk => by rw [e5, g_up_n _ _ (by omega)]; exact p5a k hk
  replace s1 := s1.up (a := h.2) (c := .inr (6, [.ref (h.2 + 1), .ref (h.2 + 6), .int 0, .ref (h.2 + 11), .ref (h.2 + 33), .ref (h.2 + 35), .null, .null, .null])) (by omega)
  rw [← e5] at s1
  replace s2 := s2.up (a := h.2) (c := .inr (6, [.ref (h.2 + 1), .ref (h.2 + 6), .int 0, .ref (h.2 + 11), .ref (h.2 + 33), .ref (h.2 + 35), .null, .null, .null])) (by omega)
  rw [← e5] at s2
  replace s3 := s3.up (a := h.2) (c := .inr (6, [.ref (h.2 + 1), .ref (h.2 + 6), .int 0, .ref (h.2 + 11), .ref (h.2 + 33), .ref (h.2 + 35), .null, .null, .null])) (by omega)
  rw [← e5] at s3
  replace s4 := s4.up (a := h.2) (c := .inr (6, [.ref (h.2 + 1), .ref (h.2 + 6), .int 0, .ref (h.2 + 11), .ref (h.2 + 33), .ref (h.2 + 35), .null, .null, .null])) (by omega)
  rw [← e5] at s4
  replace s5 := s5.up (a := h.2) (c := .inr (6, [.ref (h.2 + 1), .ref (h.2 + 6), .int 0, .ref (h.2 + 11), .ref (h.2 + 33), .ref (h.2 + 35), .null, .null, .null])) (by omega)
  rw [← e5] at s5
  have hh5 := e5
  change J _ _ _ _ _ _ _ _ _ (g_up h5a h.2 (.inr (6, [.ref (h.2 + 1), .ref (h.2 + 6), .int 0, .ref (h.2 + 11), .ref (h.2 + 33), .ref (h.2 + 35), .null, .null, .null]))) Q
  rw [← e5]
  exact b5_X6_init hp1 hQ y5b o5 p5 s1 s2 s3 s4 s5
theorem b3_X6_init {h3 : g_H} (hp1 : 1 ≤ h.2) (hQ : ∀ h', NW h h' 55 (fun H => CI H h.2 ([], [], none, [])) → Q none h') (y3b : h3.2 = h.2 + 32) (o3 : h3.1 h.2 = .inr (6, [.ref (h.2 + 1), .ref (h.2 + 6), .int 0, .ref (h.2 + 11), .null, .null, .null, .null, .null])) (p3 : ∀ k, k < h.2 → h3.1 k = h.1 k) (s1 : ST h3 (h.2 + 1) (fun H => LA H (h.2 + 1) [])) (s2 : ST h3 (h.2 + 1) (fun H => LA H (h.2 + 6) [])) (s3 : ST h3 (h.2 + 1) (fun H => HA H (h.2 + 11) [])) : J m_X6_init 3 55 1450 32 996 42 [some (.ref h.2)] [] h3 Q := by
  refine J_aload_n dX6_init_42 rfl ?_
  refine J_new (fs := [.null, .int 0, .int 0]) dX6_init_43 gc_3 cl_RX6_30 ins_RX3 ini_LivedLinks_LinkText (fun j hj ad => by rcases (show j = 0 ∨ j = 1 ∨ j = 2 by omega) with rfl | rfl | rfl <;> rfl) ⟨by decide, by decide⟩ ?_
  refine J_dup dX6_init_46 rfl ?_
  refine J_callIN (As := []) (rest := [_, _]) (M' := m_X3_init) dX6_init_47 ml_RX6_32 gm_X3_init ⟨rfl, im_yX3_init⟩ rfl rfl rfl (Nat.le_of_ble_eq_true rfl) (by decide) ⟨rfl, rfl, by decide, by decide⟩ (s_X3_init (h := g_push _ _) (by show 1 ≤ h3.2 + 1; omega) (g_push_s _ _) (fun h4a w4 => ?_))
  have y4 : h4a.2 = h.2 + 34 := by have := w4.sz; omega
  have o4a : h4a.1 h.2 = .inr (6, [.ref (h.2 + 1), .ref (h.2 + 6), .int 0, .ref (h.2 + 11), .null, .null, .null, .null, .null]) := (w4.at (by omega)).trans o3
  have p4a : ∀ k, k < h.2 → h4a.1 k = h.1 k := fun k hk => (w4.at (by omega)).trans (p3 k hk)
  replace s1 := s1.nw w4
  replace s2 := s2.nw w4
  replace s3 := s3.nw w4
  have s4 : ST h4a (h.2 + 1) (fun H => TP H (h.2 + 33) [] 0) := (ST.of w4 (by omega)).im (fun H q => by have q : TP H (h3.2 + 1) [] 0 := q; rwa [show h3.2 + 1 = h.2 + 33 by omega] at q)
  rw [show h3.2 + 1 = h.2 + 33 by omega]
  refine J_putF (k := 4) dX6_init_50 gc_6 fl_RX6_33 (by decide) rfl o4a ⟨hp1, by omega⟩ (Nat.le_of_ble_eq_true rfl) rfl rfl (fun _ => ⟨rfl, rfl⟩) rfl ?_
  obtain ⟨h4, e4⟩ : ∃ x, x = g_up h4a h.2 (.inr (6, [.ref (h.2 + 1), .ref (h.2 + 6), .int 0, .ref (h.2 + 11), .ref (h.2 + 33), .null, .null, .null, .null])) := ⟨_, rfl⟩
  have y4b : h4.2 = h.2 + 34 := by rw [e4]; exact y4
  have o4 : h4.1 h.2 = .inr (6, [.ref (h.2 + 1), .ref (h.2 + 6), .int 0, .ref (h.2 + 11), .ref (h.2 + 33), .null, .null, .null, .null]) := by rw [e4]; exact g_up_s _ _ _
  have p4 : ∀ k, k < h.2 → h4.1 k = h.1 k := fun k hk => by rw [e4, g_up_n _ _ (by omega)]; exact p4a k hk
  replace s1 := s1.up (a := h.2) (c := .inr (6, [.ref (h.2 + 1), .ref (h.2 + 6), .int 0, .ref (h.2 + 11), .ref (h.2 + 33), .null, .null, .null, .null])) (by omega)
  rw [← e4] at s1
  replace s2 := s2.up (a := h.2) (c := .inr (6, [.ref (h.2 + 1), .ref (h.2 + 6), .int 0, .ref (h.2 + 11), .ref (h.2 + 33), .null, .null, .null, .null])) (by omega)
  rw [← e4] at s2
  replace s3 := s3.up (a := h.2) (c := .inr (6, [.ref (h.2 + 1), .ref (h.2 + 6), .int 0, .ref (h.2 + 11), .ref (h.2 + 33), .null, .null, .null, .null])) (by omega)
  rw [← e4] at s3
  replace s4 := s4.up (a := h.2) (c := .inr (6, [.ref (h.2 + 1), .ref (h.2 + 6), .int 0, .ref (h.2 + 11), .ref (h.2 + 33), .null, .null, .null, .null])) (by omega)
  rw [← e4] at s4
  have hh4 := e4
  change J _ _ _ _ _ _ _ _ _ (g_up h4a h.2 (.inr (6, [.ref (h.2 + 1), .ref (h.2 + 6), .int 0, .ref (h.2 + 11), .ref (h.2 + 33), .null, .null, .null, .null]))) Q
  rw [← e4]
  exact b4_X6_init hp1 hQ y4b o4 p4 s1 s2 s3 s4
theorem b2_X6_init {h2 : g_H} (hp1 : 1 ≤ h.2) (hQ : ∀ h', NW h h' 55 (fun H => CI H h.2 ([], [], none, [])) → Q none h') (y2b : h2.2 = h.2 + 10) (o2 : h2.1 h.2 = .inr (6, [.ref (h.2 + 1), .ref (h.2 + 6), .int 0, .null, .null, .null, .null, .null, .null])) (p2 : ∀ k, k < h.2 → h2.1 k = h.1 k) (s1 : ST h2 (h.2 + 1) (fun H => LA H (h.2 + 1) [])) (s2 : ST h2 (h.2 + 1) (fun H => LA H (h.2 + 6) [])) : J m_X6_init 3 55 1450 10 330 31 [some (.ref h.2)] [] h2 Q := by
  refine J_aload_n dX6_init_31 rfl ?_
  refine J_new (fs := [.null, .int 0]) dX6_init_32 gc_1 cl_RX6_23 ins_RX1 ini_LivedLinks_History (fun j hj ad => by rcases (show j = 0 ∨ j = 1 by omega) with rfl | rfl <;> rfl) ⟨by decide, by decide⟩ ?_
  refine J_dup dX6_init_35 rfl ?_
  refine J_callI (As := []) (rest := [_, _]) (M' := m_X1_init) dX6_init_36 ml_RX6_25 gm_X1_init ⟨rfl, im_yX1_init⟩ rfl rfl rfl (Nat.le_of_ble_eq_true rfl) (by decide) ⟨rfl, rfl, by decide, by decide⟩ (s_X1_init (h := g_push _ _) (by show 1 ≤ h2.2 + 1; omega) (g_push_s _ _) (fun h3a w3 => ?_))
  have y3 : h3a.2 = h.2 + 32 := by have := w3.sz; omega
  have o3a : h3a.1 h.2 = .inr (6, [.ref (h.2 + 1), .ref (h.2 + 6), .int 0, .null, .null, .null, .null, .null, .null]) := (w3.at (by omega)).trans o2
  have p3a : ∀ k, k < h.2 → h3a.1 k = h.1 k := fun k hk => (w3.at (by omega)).trans (p2 k hk)
  replace s1 := s1.nw w3
  replace s2 := s2.nw w3
  have s3 : ST h3a (h.2 + 1) (fun H => HA H (h.2 + 11) []) := (ST.of w3 (by omega)).im (fun H q => by have q : HA H (h2.2 + 1) [] := q; rwa [show h2.2 + 1 = h.2 + 11 by omega] at q)
  rw [show h2.2 + 1 = h.2 + 11 by omega]
  refine J_putF (k := 3) dX6_init_39 gc_6 fl_RX6_26 (by decide) rfl o3a ⟨hp1, by omega⟩ (Nat.le_of_ble_eq_true rfl) rfl rfl (fun _ => ⟨rfl, rfl⟩) rfl ?_
  obtain ⟨h3, e3⟩ : ∃ x, x = g_up h3a h.2 (.inr (6, [.ref (h.2 + 1), .ref (h.2 + 6), .int 0, .ref (h.2 + 11), .null, .null, .null, .null, .null])) := ⟨_, rfl⟩
  have y3b : h3.2 = h.2 + 32 := by rw [e3]; exact y3
  have o3 : h3.1 h.2 = .inr (6, [.ref (h.2 + 1), .ref (h.2 + 6), .int 0, .ref (h.2 + 11), .null, .null, .null, .null, .null]) := by rw [e3]; exact g_up_s _ _ _
  have p3 : ∀ k, k < h.2 → h3.1 k = h.1 k := fun k hk => by rw [e3, g_up_n _ _ (by omega)]; exact p3a k hk
  replace s1 := s1.up (a := h.2) (c := .inr (6, [.ref (h.2 + 1), .ref (h.2 + 6), .int 0, .ref (h.2 + 11), .null, .null, .null, .null, .null])) (by omega)
  rw [← e3] at s1
  replace s2 := s2.up (a := h.2) (c := .inr (6, [.ref (h.2 + 1), .ref (h.2 + 6), .int 0, .ref (h.2 + 11), .null, .null, .null, .null, .null])) (by omega)
  rw [← e3] at s2
  replace s3 := s3.up (a := h.2) (c := .inr (6, [.ref (h.2 + 1), .ref (h.2 + 6), .int 0, .ref (h.2 + 11), .null, .null, .null, .null, .null])) (by omega)
  rw [← e3] at s3
  have hh3 := e3
  change J _ _ _ _ _ _ _ _ _ (g_up h3a h.2 (.inr (6, [.ref (h.2 + 1), .ref (h.2 + 6), .int 0, .ref (h.2 + 11), .null, .null, .null, .null, .null]))) Q
  rw [← e3]
  exact b3_X6_init hp1 hQ y3b o3 p3 s1 s2 s3
theorem s_X6_init (hp1 : 1 ≤ h.2) (ho : h.1 h.2 = .inr (6, [.null, .null, .int 0, .null, .null, .null, .null, .null, .null])) (hQ : ∀ h', NW h h' 55 (fun H => CI H h.2 ([], [], none, [])) → Q none h') : MJ m_X6_init 3 55 1450 [.ref h.2] h Q := by
  refine MJ_of_J (L := [some (.ref h.2)]) (by decide +kernel) rfl (Nat.le_of_ble_eq_true rfl) rfl ?_
  have o0 : h.1 h.2 = .inr (6, [.null, .null, .int 0, .null, .null, .null, .null, .null, .null]) := ho
  have p0 : ∀ k, k < h.2 → h.1 k = h.1 k := fun _ _ => rfl
  have z0 : h.2 = h.2 + 0 := rfl
  refine J_aload_n dX6_init_0 rfl ?_
  refine J_objInit dX6_init_1 ml_RX6_1 im_objectInit co_objectInit (by decide) (Nat.le_of_ble_eq_true rfl) ?_
  refine J_aload_n dX6_init_4 rfl ?_
  refine J_new (fs := [.null, .null, .null, .null, .int 0]) dX6_init_5 gc_4 cl_RX6_7 ins_RX4 ini_LivedLinks_Links (fun j hj ad => by rcases (show j = 0 ∨ j = 1 ∨ j = 2 ∨ j = 3 ∨ j = 4 by omega) with rfl | rfl | rfl | rfl | rfl <;> rfl) ⟨by decide, by decide⟩ ?_
  refine J_dup dX6_init_8 rfl ?_
  refine J_callIN (As := []) (rest := [_, _]) (M' := m_X4_init) dX6_init_9 ml_RX6_9 gm_X4_init ⟨rfl, im_yX4_init⟩ rfl rfl rfl (Nat.le_of_ble_eq_true rfl) (by decide) ⟨rfl, rfl, by decide, by decide⟩ (s_X4_init (h := g_push _ _) (by show 1 ≤ h.2 + 1; omega) (g_push_s _ _) (fun h1a w1 => ?_))
  have y1 : h1a.2 = h.2 + 5 := by have := w1.sz; omega
  have o1a : h1a.1 h.2 = .inr (6, [.null, .null, .int 0, .null, .null, .null, .null, .null, .null]) := (w1.at (by omega)).trans o0
  have p1a : ∀ k, k < h.2 → h1a.1 k = h.1 k := fun k hk => (w1.at (by omega)).trans (p0 k hk)
  have s1 : ST h1a (h.2 + 1) (fun H => LA H (h.2 + 1) []) := (ST.of w1 (by omega)).im (fun H q => by have q : LA H (h.2 + 1) [] := q; rwa [show h.2 + 1 = h.2 + 1 by omega] at q)
  refine J_putF (k := 0) dX6_init_12 gc_6 fl_RX6_10 (by decide) rfl o1a ⟨hp1, by omega⟩ (Nat.le_of_ble_eq_true rfl) rfl rfl (fun _ => ⟨rfl, rfl⟩) rfl ?_
  obtain ⟨h1, e1⟩ : ∃ x, x = g_up h1a h.2 (.inr (6, [.ref (h.2 + 1), .null, .int 0, .null, .null, .null, .null, .null, .null])) := ⟨_, rfl⟩
  have y1b : h1.2 = h.2 + 5 := by rw [e1]; exact y1
  have o1 : h1.1 h.2 = .inr (6, [.ref (h.2 + 1), .null, .int 0, .null, .null, .null, .null, .null, .null]) := by rw [e1]; exact g_up_s _ _ _
  have p1 : ∀ k, k < h.2 → h1.1 k = h.1 k := fun k hk => by rw [e1, g_up_n _ _ (by omega)]; exact p1a k hk
  replace s1 := s1.up (a := h.2) (c := .inr (6, [.ref (h.2 + 1), .null, .int 0, .null, .null, .null, .null, .null, .null])) (by omega)
  rw [← e1] at s1
  have hh1 := e1
  change J _ _ _ _ _ _ _ _ _ (g_up h1a h.2 (.inr (6, [.ref (h.2 + 1), .null, .int 0, .null, .null, .null, .null, .null, .null]))) Q
  rw [← e1]
  refine J_aload_n dX6_init_15 rfl ?_
  refine J_new (fs := [.null, .null, .null, .null, .int 0]) dX6_init_16 gc_4 cl_RX6_7 ins_RX4 ini_LivedLinks_Links (fun j hj ad => by rcases (show j = 0 ∨ j = 1 ∨ j = 2 ∨ j = 3 ∨ j = 4 by omega) with rfl | rfl | rfl | rfl | rfl <;> rfl) ⟨by decide, by decide⟩ ?_
  refine J_dup dX6_init_19 rfl ?_
  refine J_callIN (As := []) (rest := [_, _]) (M' := m_X4_init) dX6_init_20 ml_RX6_9 gm_X4_init ⟨rfl, im_yX4_init⟩ rfl rfl rfl (Nat.le_of_ble_eq_true rfl) (by decide) ⟨rfl, rfl, by decide, by decide⟩ (s_X4_init (h := g_push _ _) (by show 1 ≤ h1.2 + 1; omega) (g_push_s _ _) (fun h2a w2 => ?_))
  have y2 : h2a.2 = h.2 + 10 := by have := w2.sz; omega
  have o2a : h2a.1 h.2 = .inr (6, [.ref (h.2 + 1), .null, .int 0, .null, .null, .null, .null, .null, .null]) := (w2.at (by omega)).trans o1
  have p2a : ∀ k, k < h.2 → h2a.1 k = h.1 k := fun k hk => (w2.at (by omega)).trans (p1 k hk)
  replace s1 := s1.nw w2
  have s2 : ST h2a (h.2 + 1) (fun H => LA H (h.2 + 6) []) := (ST.of w2 (by omega)).im (fun H q => by have q : LA H (h1.2 + 1) [] := q; rwa [show h1.2 + 1 = h.2 + 6 by omega] at q)
  rw [show h1.2 + 1 = h.2 + 6 by omega]
  refine J_putF (k := 1) dX6_init_23 gc_6 fl_RX6_16 (by decide) rfl o2a ⟨hp1, by omega⟩ (Nat.le_of_ble_eq_true rfl) rfl rfl (fun _ => ⟨rfl, rfl⟩) rfl ?_
  obtain ⟨h2, e2⟩ : ∃ x, x = g_up h2a h.2 (.inr (6, [.ref (h.2 + 1), .ref (h.2 + 6), .int 0, .null, .null, .null, .null, .null, .null])) := ⟨_, rfl⟩
  have y2b : h2.2 = h.2 + 10 := by rw [e2]; exact y2
  have o2 : h2.1 h.2 = .inr (6, [.ref (h.2 + 1), .ref (h.2 + 6), .int 0, .null, .null, .null, .null, .null, .null]) := by rw [e2]; exact g_up_s _ _ _
  have p2 : ∀ k, k < h.2 → h2.1 k = h.1 k := fun k hk => by rw [e2, g_up_n _ _ (by omega)]; exact p2a k hk
  replace s1 := s1.up (a := h.2) (c := .inr (6, [.ref (h.2 + 1), .ref (h.2 + 6), .int 0, .null, .null, .null, .null, .null, .null])) (by omega)
  rw [← e2] at s1
  replace s2 := s2.up (a := h.2) (c := .inr (6, [.ref (h.2 + 1), .ref (h.2 + 6), .int 0, .null, .null, .null, .null, .null, .null])) (by omega)
  rw [← e2] at s2
  have hh2 := e2
  change J _ _ _ _ _ _ _ _ _ (g_up h2a h.2 (.inr (6, [.ref (h.2 + 1), .ref (h.2 + 6), .int 0, .null, .null, .null, .null, .null, .null]))) Q
  rw [← e2]
  refine J_aload_n dX6_init_26 rfl ?_
  refine J_iconst (x := 0) dX6_init_27 (by decide) ?_
  refine J_put (k := 2) dX6_init_28 gc_6 fl_RX6_19 (by decide) rfl o2 ⟨hp1, by omega⟩ (Nat.le_of_ble_eq_true rfl) (fun _ => ⟨rfl, rfl⟩) rfl ?_
  change J _ _ _ _ _ _ _ _ _ (g_up h2 h.2 (.inr (6, [.ref (h.2 + 1), .ref (h.2 + 6), .int 0, .null, .null, .null, .null, .null, .null]))) Q
  rw [g_up_id o2]
  exact b2_X6_init hp1 hQ y2b o2 p2 s1 s2
end SInit3
