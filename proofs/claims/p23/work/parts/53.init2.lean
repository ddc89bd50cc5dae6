def ST (h : g_H) (lo : Nat) (P : g_H → Prop) : Prop := ∀ H : g_H, h.2 ≤ H.2 → (∀ k, lo ≤ k → k ≤ h.2 → H.1 k = h.1 k) → P H
section SInit2
variable {h h' : g_H} {n lo a : Nat} {c : g_C} {P P' : g_H → Prop} {Q : Option Value → g_H → Prop}
theorem NW.at (z : NW (g_push h c) h' n P') {k : Nat} (hk : k ≤ h.2) : h'.1 k = h.1 k := (z.2.1 k (show k < h.2 + 1 by omega)).trans (g_push_n h c (by omega))
theorem NW.sz (z : NW (g_push h c) h' n P') : h'.2 = h.2 + 1 + n := z.1
theorem ST.nw (s : ST h lo P) (z : NW (g_push h c) h' n P') : ST h' lo P := fun H e1 e2 => s H (by have := z.sz; omega) (fun k q1 q2 => (e2 k q1 (by have := z.sz; omega)).trans (z.at q2))
theorem ST.of (z : NW (g_push h c) h' n P') (hl : lo ≤ h.2 + 1) : ST h' lo P' := fun H e1 e2 => z.2.2 H e1 (fun k q1 q2 => e2 k (by have q1 : h.2 + 1 ≤ k := q1; omega) q2)
theorem ST.up (s : ST h lo P) (ha : a < lo) : ST (g_up h a c) lo P := fun H e1 e2 => s H e1 (fun k q1 q2 => (e2 k q1 q2).trans (g_up_n h c (by omega)))
theorem ST.push (s : ST h lo P) : ST (g_push h c) lo P := fun H e1 e2 => s H (by have e1 : h.2 + 1 ≤ H.2 := e1; omega) (fun k q1 q2 => (e2 k q1 (show k ≤ h.2 + 1 by omega)).trans (g_push_n h c (by omega)))
theorem ST.arr (hl : lo ≤ h.2 + 1) : ST (g_push h c) lo (fun H => H.1 (h.2 + 1) = c) := fun H e1 e2 => (e2 (h.2 + 1) hl (Nat.le_refl _)).trans (g_push_s h c)
theorem ST.im (s : ST h lo P) (hi : ∀ H, P H → P' H) : ST h lo P' := fun H e1 e2 => hi H (s H e1 e2)
theorem s_X5_init (hp1 : 1 ≤ h.2) (ho : h.1 h.2 = .inr (5, [.null, .null])) (hQ : ∀ h', NW h h' 8 (fun H => MA H h.2) → Q none h') : MJ m_X5_init 2 8 152 [.ref h.2] h Q := by
  refine MJ_of_J (L := [some (.ref h.2)]) (by decide +kernel) rfl (Nat.le_of_ble_eq_true rfl) rfl ?_
  have o0 : h.1 h.2 = .inr (5, [.null, .null]) := ho
  have p0 : ∀ k, k < h.2 → h.1 k = h.1 k := fun _ _ => rfl
  have z0 : h.2 = h.2 + 0 := rfl
  refine J_aload_n dX5_init_0 rfl ?_
  refine J_objInit dX5_init_1 ml_RX5_3 im_objectInit co_objectInit (by decide) (Nat.le_of_ble_eq_true rfl) ?_
  refine J_aload_n dX5_init_4 rfl ?_
  refine J_new (fs := [.null, .null, .null, .int 0]) dX5_init_5 gc_2 cl_RX5_9 ins_RX2 ini_LivedLinks_Joinings (fun j hj ad => by rcases (show j = 0 ∨ j = 1 ∨ j = 2 ∨ j = 3 by omega) with rfl | rfl | rfl | rfl <;> rfl) ⟨by decide, by decide⟩ ?_
  refine J_dup dX5_init_8 rfl ?_
  refine J_bipush (x := 16) dX5_init_9 (by decide) ?_
  refine J_callI (As := [_]) (rest := [_, _]) (M' := m_X2_init) dX5_init_11 ml_RX5_11 gm_X2_init ⟨rfl, im_yX2_init⟩ rfl rfl rfl (Nat.le_of_ble_eq_true rfl) (by decide) ⟨rfl, rfl, by decide, by decide⟩ (s16_X2_init (h := g_push _ _) (by show 1 ≤ h.2 + 1; omega) (g_push_s _ _) (fun h1a w1 => ?_))
  have y1 : h1a.2 = h.2 + 4 := by have := w1.sz; omega
  have o1a : h1a.1 h.2 = .inr (5, [.null, .null]) := (w1.at (by omega)).trans o0
  have p1a : ∀ k, k < h.2 → h1a.1 k = h.1 k := fun k hk => (w1.at (by omega)).trans (p0 k hk)
  have s1 : ST h1a (h.2 + 1) (fun H => JA H (h.2 + 1) 16 []) := (ST.of w1 (by omega)).im (fun H q => by have q : JA H (h.2 + 1) 16 [] := q; rwa [show h.2 + 1 = h.2 + 1 by omega] at q)
  refine J_putF (k := 0) dX5_init_14 gc_5 fl_RX5_14 (by decide) rfl o1a ⟨hp1, by omega⟩ (Nat.le_of_ble_eq_true rfl) rfl rfl (fun _ => ⟨rfl, rfl⟩) rfl ?_
  obtain ⟨h1, e1⟩ : ∃ x, x = g_up h1a h.2 (.inr (5, [.ref (h.2 + 1), .null])) := ⟨_, rfl⟩
  have y1b : h1.2 = h.2 + 4 := by rw [e1]; exact y1
  have o1 : h1.1 h.2 = .inr (5, [.ref (h.2 + 1), .null]) := by rw [e1]; exact g_up_s _ _ _
  have p1 : ∀ k, k < h.2 → h1.1 k = h.1 k := fun k hk => by rw [e1, g_up_n _ _ (by omega)]; exact p1a k hk
  replace s1 := s1.up (a := h.2) (c := .inr (5, [.ref (h.2 + 1), .null])) (by omega)
  rw [← e1] at s1
  have hh1 := e1
  change J _ _ _ _ _ _ _ _ _ (g_up h1a h.2 (.inr (5, [.ref (h.2 + 1), .null]))) Q
  rw [← e1]
  refine J_aload_n dX5_init_17 rfl ?_
  refine J_new (fs := [.null, .null, .null, .int 0]) dX5_init_18 gc_2 cl_RX5_9 ins_RX2 ini_LivedLinks_Joinings (fun j hj ad => by rcases (show j = 0 ∨ j = 1 ∨ j = 2 ∨ j = 3 by omega) with rfl | rfl | rfl | rfl <;> rfl) ⟨by decide, by decide⟩ ?_
  refine J_dup dX5_init_21 rfl ?_
  refine J_bipush (x := 32) dX5_init_22 (by decide) ?_
  refine J_callI (As := [_]) (rest := [_, _]) (M' := m_X2_init) dX5_init_24 ml_RX5_11 gm_X2_init ⟨rfl, im_yX2_init⟩ rfl rfl rfl (Nat.le_of_ble_eq_true rfl) (by decide) ⟨rfl, rfl, by decide, by decide⟩ (s32_X2_init (h := g_push _ _) (by show 1 ≤ h1.2 + 1; omega) (g_push_s _ _) (fun h2a w2 => ?_))
  have y2 : h2a.2 = h.2 + 8 := by have := w2.sz; omega
  have o2a : h2a.1 h.2 = .inr (5, [.ref (h.2 + 1), .null]) := (w2.at (by omega)).trans o1
  have p2a : ∀ k, k < h.2 → h2a.1 k = h.1 k := fun k hk => (w2.at (by omega)).trans (p1 k hk)
  replace s1 := s1.nw w2
  have s2 : ST h2a (h.2 + 1) (fun H => JA H (h.2 + 5) 32 []) := (ST.of w2 (by omega)).im (fun H q => by have q : JA H (h1.2 + 1) 32 [] := q; rwa [show h1.2 + 1 = h.2 + 5 by omega] at q)
  rw [show h1.2 + 1 = h.2 + 5 by omega]
  refine J_putF (k := 1) dX5_init_27 gc_5 fl_RX5_20 (by decide) rfl o2a ⟨hp1, by omega⟩ (Nat.le_of_ble_eq_true rfl) rfl rfl (fun _ => ⟨rfl, rfl⟩) rfl ?_
  obtain ⟨h2, e2⟩ : ∃ x, x = g_up h2a h.2 (.inr (5, [.ref (h.2 + 1), .ref (h.2 + 5)])) := ⟨_, rfl⟩
  have y2b : h2.2 = h.2 + 8 := by rw [e2]; exact y2
  have o2 : h2.1 h.2 = .inr (5, [.ref (h.2 + 1), .ref (h.2 + 5)]) := by rw [e2]; exact g_up_s _ _ _
  have p2 : ∀ k, k < h.2 → h2.1 k = h.1 k := fun k hk => by rw [e2, g_up_n _ _ (by omega)]; exact p2a k hk
  replace s1 := s1.up (a := h.2) (c := .inr (5, [.ref (h.2 + 1), .ref (h.2 + 5)])) (by omega)
  rw [← e2] at s1
  replace s2 := s2.up (a := h.2) (c := .inr (5, [.ref (h.2 + 1), .ref (h.2 + 5)])) (by omega)
  rw [← e2] at s2
  have hh2 := e2
  change J _ _ _ _ _ _ _ _ _ (g_up h2a h.2 (.inr (5, [.ref (h.2 + 1), .ref (h.2 + 5)]))) Q
  rw [← e2]
  exact J_vret dX5_init_30 rfl ⟨rfl, Nat.le_refl _⟩ (hQ h2 ⟨y2b, p2, fun H e1 e2 => ⟨⟨hp1, by omega⟩, (e2 h.2 (Nat.le_refl _) (by omega)).trans o2, ⟨[], (s1 H (by omega) (fun k q1 q2 => e2 k (by omega) (by omega)))⟩, ⟨[], (s2 H (by omega) (fun k q1 q2 => e2 k (by omega) (by omega)))⟩⟩⟩)
theorem s_X0_init (hp1 : 1 ≤ h.2) (ho : h.1 h.2 = .inr (0, [.null, .null, .int 0, .int 0, .int 0, .int 0, .int 0])) (hQ : ∀ h', NW h h' 5 (fun H => ∃ (x1 x2 x3 x4 x5 : Int32) (g : Nat → Int32) (js : List (Nat × Nat)), HR H h.2 x1 x2 x3 x4 x5 g ∧ JA H (h.2 + 1) 16 js) → Q none h') : MJ m_X0_init 2 5 59 [.ref h.2] h Q := by
  refine MJ_of_J (L := [some (.ref h.2)]) (by decide +kernel) rfl (Nat.le_of_ble_eq_true rfl) rfl ?_
  have o0 : h.1 h.2 = .inr (0, [.null, .null, .int 0, .int 0, .int 0, .int 0, .int 0]) := ho
  have p0 : ∀ k, k < h.2 → h.1 k = h.1 k := fun _ _ => rfl
  have z0 : h.2 = h.2 + 0 := rfl
  refine J_aload_n dX0_init_0 rfl ?_
  refine J_objInit dX0_init_1 ml_RX0_3 im_objectInit co_objectInit (by decide) (Nat.le_of_ble_eq_true rfl) ?_
  refine J_aload_n dX0_init_4 rfl ?_
  refine J_new (fs := [.null, .null, .null, .int 0]) dX0_init_5 gc_2 cl_RX0_9 ins_RX2 ini_LivedLinks_Joinings (fun j hj ad => by rcases (show j = 0 ∨ j = 1 ∨ j = 2 ∨ j = 3 by omega) with rfl | rfl | rfl | rfl <;> rfl) ⟨by decide, by decide⟩ ?_
  refine J_dup dX0_init_8 rfl ?_
  refine J_bipush (x := 16) dX0_init_9 (by decide) ?_
  refine J_callI (As := [_]) (rest := [_, _]) (M' := m_X2_init) dX0_init_11 ml_RX0_11 gm_X2_init ⟨rfl, im_yX2_init⟩ rfl rfl rfl (Nat.le_of_ble_eq_true rfl) (by decide) ⟨rfl, rfl, by decide, by decide⟩ (s16_X2_init (h := g_push _ _) (by show 1 ≤ h.2 + 1; omega) (g_push_s _ _) (fun h1a w1 => ?_))
  have y1 : h1a.2 = h.2 + 4 := by have := w1.sz; omega
  have o1a : h1a.1 h.2 = .inr (0, [.null, .null, .int 0, .int 0, .int 0, .int 0, .int 0]) := (w1.at (by omega)).trans o0
  have p1a : ∀ k, k < h.2 → h1a.1 k = h.1 k := fun k hk => (w1.at (by omega)).trans (p0 k hk)
  have s1 : ST h1a (h.2 + 1) (fun H => JA H (h.2 + 1) 16 []) := (ST.of w1 (by omega)).im (fun H q => by have q : JA H (h.2 + 1) 16 [] := q; rwa [show h.2 + 1 = h.2 + 1 by omega] at q)
  refine J_putF (k := 0) dX0_init_14 gc_0 fl_RX0_14 (by decide) rfl o1a ⟨hp1, by omega⟩ (Nat.le_of_ble_eq_true rfl) rfl rfl (fun _ => ⟨rfl, rfl⟩) rfl ?_
  obtain ⟨h1, e1⟩ : ∃ x, x = g_up h1a h.2 (.inr (0, [.ref (h.2 + 1), .null, .int 0, .int 0, .int 0, .int 0, .int 0])) := ⟨_, rfl⟩
  have y1b : h1.2 = h.2 + 4 := by rw [e1]; exact y1
  have o1 : h1.1 h.2 = .inr (0, [.ref (h.2 + 1), .null, .int 0, .int 0, .int 0, .int 0, .int 0]) := by rw [e1]; exact g_up_s _ _ _
  have p1 : ∀ k, k < h.2 → h1.1 k = h.1 k := fun k hk => by rw [e1, g_up_n _ _ (by omega)]; exact p1a k hk
  replace s1 := s1.up (a := h.2) (c := .inr (0, [.ref (h.2 + 1), .null, .int 0, .int 0, .int 0, .int 0, .int 0])) (by omega)
  rw [← e1] at s1
  have hh1 := e1
  change J _ _ _ _ _ _ _ _ _ (g_up h1a h.2 (.inr (0, [.ref (h.2 + 1), .null, .int 0, .int 0, .int 0, .int 0, .int 0]))) Q
  rw [← e1]
  refine J_aload_n dX0_init_17 rfl ?_
  refine J_bipush (x := 7) dX0_init_18 (by decide) ?_
  refine J_newi (N := 7) .int (Or.inl ⟨rfl, rfl⟩) dX0_init_20 ac_int (by decide) (by decide) (by decide) ⟨by decide, by decide⟩ ?_
  obtain ⟨h9, e9⟩ : ∃ x, x = g_push h1 (.inl (0, 7, .inl (fun _ => 0))) := ⟨_, rfl⟩
  have y9 : h9.2 = h.2 + 5 := by rw [e9]; show h1.2 + 1 = _; omega
  have o9 : h9.1 h.2 = .inr (0, [.ref (h.2 + 1), .null, .int 0, .int 0, .int 0, .int 0, .int 0]) := by rw [e9, g_push_n _ _ (by omega)]; exact o1
  have p9 : ∀ k, k < h.2 → h9.1 k = h.1 k := fun k hk => by rw [e9, g_push_n _ _ (by omega)]; exact p1 k hk
  replace s1 := s1.push (c := .inl (0, 7, .inl (fun _ => 0)))
  rw [← e9] at s1
  have s2 := ST.arr (h := h1) (c := .inl (0, 7, .inl (fun _ => 0))) (lo := h.2 + 1) (by omega)
  rw [← e9] at s2
  rw [← e9, show h1.2 + 1 = h.2 + 5 by omega]
  rw [show h1.2 + 1 = h.2 + 5 by omega] at s2
  refine J_putF (k := 1) dX0_init_22 gc_0 fl_RX0_20 (by decide) rfl o9 ⟨hp1, by omega⟩ (Nat.le_of_ble_eq_true rfl) rfl rfl (fun _ => ⟨rfl, rfl⟩) rfl ?_
  exact J_vret dX0_init_25 rfl ⟨rfl, Nat.le_refl _⟩ (hQ _ ⟨y9, fun k hk => (g_up_n _ _ (by omega)).trans (p9 k hk), fun H e1 e2 => ⟨0, 0, 0, 0, 0, fun _ => 0, [], ⟨⟨hp1, by have e1 : h9.2 ≤ H.2 := e1; omega⟩, (e2 h.2 (Nat.le_refl _) (by show h.2 ≤ h9.2; omega)).trans (g_up_s _ _ _), s2 H e1 (fun k q1 q2 => (e2 k (by omega) q2).trans (g_up_n _ _ (by omega)))⟩, s1 H e1 (fun k q1 q2 => (e2 k (by omega) q2).trans (g_up_n _ _ (by omega)))⟩⟩)
end SInit2
