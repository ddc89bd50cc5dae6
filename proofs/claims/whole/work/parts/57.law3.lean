theorem s_law {N : Nat} {xs : Nat → Int32} (hN : N ≤ 2560) {h : g_H} (hz : h.2 = 0) : J (m_law N xs) 9 63 2698 0 0 0 [some (.ref 0), none, none, none] [] h (fun r _ => r = some (.int 1)) := by
  refine J_new (fs := [.null, .null, .int 0, .null, .null, .null, .null, .null, .null]) dL_law_0 gc_6 cl_R_law_7 ins_RX6 ini_LivedLinks (fun j hj ad => by rcases (show j = 0 ∨ j = 1 ∨ j = 2 ∨ j = 3 ∨ j = 4 ∨ j = 5 ∨ j = 6 ∨ j = 7 ∨ j = 8 by omega) with rfl | rfl | rfl | rfl | rfl | rfl | rfl | rfl | rfl <;> rfl) ⟨by decide, by decide⟩ ?_
  refine J_dup dL_law_3 rfl ?_
  refine J_callI (As := []) (rest := [_]) (M' := m_X6_init) dL_law_4 ml_R_law_9 gm_X6_init ⟨rfl, im_yX6_init⟩ rfl rfl rfl (Nat.le_of_ble_eq_true rfl) (by decide) ⟨rfl, rfl, by decide, by decide⟩ (s_X6_init (h := g_push _ _) (by show 1 ≤ h.2 + 1; omega) (g_push_s _ _) (fun h1 w1 => ?_))
  have y1 : h1.2 = 56 := by have := w1.sz; omega
  have q1 : CI h1 (h.2 + 1) ([], [], none, []) := w1.2.2 h1 (Nat.le_refl _) (fun _ _ _ => rfl)
  rw [show h.2 + 1 = 1 by omega]
  refine J_astore_n (L' := [_, _, _, _]) dL_law_7 (show 1 < 4 by decide) rfl ?_
  refine J_new (fs := [.null, .null, .null, .int 0, .null, .int 0, .null, .int 0, .int 0, .int 0, .null, .int 0]) dL_law_8 gc_7 cl_R_law_10 ins_RX7 ini_LivedLinksModel (fun j hj ad => by rcases (show j = 0 ∨ j = 1 ∨ j = 2 ∨ j = 3 ∨ j = 4 ∨ j = 5 ∨ j = 6 ∨ j = 7 ∨ j = 8 ∨ j = 9 ∨ j = 10 ∨ j = 11 by omega) with rfl | rfl | rfl | rfl | rfl | rfl | rfl | rfl | rfl | rfl | rfl | rfl <;> rfl) ⟨by decide, by decide⟩ ?_
  refine J_dup dL_law_11 rfl ?_
  refine J_callI (As := []) (rest := [_]) (M' := m_X7_init) dL_law_12 ml_R_law_12 gm_X7_init ⟨rfl, im_yX7_init⟩ rfl rfl rfl (Nat.le_of_ble_eq_true rfl) (by decide) ⟨rfl, rfl, by decide, by decide⟩ (s_X7_init (h := g_push _ _) (by show 1 ≤ h1.2 + 1; omega) (g_push_s _ _) (fun h2 w2 => ?_))
  have y2 : h2.2 = 63 := by have := w2.sz; omega
  have q2 : VI h2 (h1.2 + 1) ([], [], none, []) := w2.2.2 h2 (Nat.le_refl _) (fun _ _ _ => rfl)
  have q3 : CI h2 (h.2 + 1) ([], [], none, []) := w1.2.2 h2 (by omega) (fun k _ z => w2.at z)
  rw [show h1.2 + 1 = 57 by omega]
  rw [show h1.2 + 1 = 57 by omega] at q2
  rw [show h.2 + 1 = 1 by omega] at q3
  refine J_astore_n (L' := [_, _, _, _]) dL_law_15 (show 2 < 4 by decide) rfl ?_
  refine J_iconst (x := 0) dL_law_16 (by decide) ?_
  refine J_istore_n (L' := [_, _, _, _]) dL_law_17 (show 3 < 4 by decide) rfl ?_
  exact l_L_law hN (N + 1) 0 h2 _ (by omega) (by omega) y2 q3 q2
