/-! what the constructors make: the object is the top cell when its constructor is called -/
def NW (h h' : g_H) (n : Nat) (P : g_H → Prop) : Prop := h'.2 = h.2 + n ∧ (∀ k, k < h.2 → h'.1 k = h.1 k) ∧ ∀ H : g_H, h'.2 ≤ H.2 → (∀ k, h.2 ≤ k → k ≤ h'.2 → H.1 k = h'.1 k) → P H
section SInit
variable {h h' : g_H} {Q : Option Value → g_H → Prop}
theorem s_X3_init (h1 : 1 ≤ h.2) (ho : h.1 h.2 = .inr (3, [.null, .int 0, .int 0])) (hQ : ∀ h', NW h h' 1 (fun H => TP H h.2 [] 0) → Q none h') : MJ m_X3_init 1 1 60 [.ref h.2] h Q := by
  refine MJ_of_J (L := [some (.ref h.2)]) (by decide +kernel) rfl (Nat.le_of_ble_eq_true rfl) rfl ?_
  refine J_aload_n dX3_init_0 rfl ?_
  refine J_objInit dX3_init_1 ml_RX3_3 im_objectInit co_objectInit (by decide) (Nat.le_of_ble_eq_true rfl) ?_
  refine J_aload_n dX3_init_4 rfl ?_
  refine J_bipush (x := 60) dX3_init_5 (by decide) ?_
  refine J_newi (N := 60) .char (Or.inr ⟨rfl, rfl⟩) dX3_init_7 ac_char (by decide) (by decide) (by decide) ⟨by decide, by decide⟩ ?_
  refine J_putF (k := 0) dX3_init_9 gc_3 fl_RX3_9 (by decide) rfl (fs := [.null, .int 0, .int 0]) (by simp [g_up, g_push, ho] <;> omega) ⟨h1, by simp only [g_up, g_push]; omega⟩ (Nat.le_of_ble_eq_true rfl) rfl rfl (fun _ => ⟨rfl, rfl⟩) rfl ?_
  exact J_vret dX3_init_12 rfl ⟨rfl, Nat.le_refl _⟩ (hQ _ ⟨by simp [g_up, g_push], fun k hk => by simp [g_up, g_push, show k ≠ h.2 by omega, show k ≠ h.2 + 1 by omega], fun H e1 e2 => ⟨fun _ => 0, ⟨⟨h1, by simp only [g_up, g_push] at e1; omega⟩, ((e2 h.2 (Nat.le_refl _) (by simp only [g_up, g_push]; omega)).trans (by simp [g_up, g_push, nI_0, snI] <;> omega)), ((e2 (h.2 + 1) (by omega) (by simp only [g_up, g_push]; omega)).trans (by simp [g_up, g_push, nI_0, snI] <;> omega))⟩, fun i c q => by simp at q, by simp, fun c q => by simp at q⟩⟩)
theorem s_X4_init (h1 : 1 ≤ h.2) (ho : h.1 h.2 = .inr (4, [.null, .null, .null, .null, .int 0])) (hQ : ∀ h', NW h h' 4 (fun H => LA H h.2 []) → Q none h') : MJ m_X4_init 1 4 160 [.ref h.2] h Q := by
  refine MJ_of_J (L := [some (.ref h.2)]) (by decide +kernel) rfl (Nat.le_of_ble_eq_true rfl) rfl ?_
  refine J_aload_n dX4_init_0 rfl ?_
  refine J_objInit dX4_init_1 ml_RX4_3 im_objectInit co_objectInit (by decide) (Nat.le_of_ble_eq_true rfl) ?_
  refine J_aload_n dX4_init_4 rfl ?_
  refine J_bipush (x := 40) dX4_init_5 (by decide) ?_
  refine J_newi (N := 40) .int (Or.inl ⟨rfl, rfl⟩) dX4_init_7 ac_int (by decide) (by decide) (by decide) ⟨by decide, by decide⟩ ?_
  refine J_putF (k := 0) dX4_init_9 gc_4 fl_RX4_9 (by decide) rfl (fs := [.null, .null, .null, .null, .int 0]) (by simp [g_up, g_push, ho] <;> omega) ⟨h1, by simp only [g_up, g_push]; omega⟩ (Nat.le_of_ble_eq_true rfl) rfl rfl (fun _ => ⟨rfl, rfl⟩) rfl ?_
  refine J_aload_n dX4_init_12 rfl ?_
  refine J_bipush (x := 40) dX4_init_13 (by decide) ?_
  refine J_newi (N := 40) .int (Or.inl ⟨rfl, rfl⟩) dX4_init_15 ac_int (by decide) (by decide) (by decide) ⟨by decide, by decide⟩ ?_
  refine J_putF (k := 1) dX4_init_17 gc_4 fl_RX4_15 (by decide) rfl (fs := [.ref (h.2 + 1), .null, .null, .null, .int 0]) (by simp [g_up, g_push, ho] <;> omega) ⟨h1, by simp only [g_up, g_push]; omega⟩ (Nat.le_of_ble_eq_true rfl) rfl rfl (fun _ => ⟨rfl, rfl⟩) rfl ?_
  refine J_aload_n dX4_init_20 rfl ?_
  refine J_bipush (x := 40) dX4_init_21 (by decide) ?_
  refine J_newi (N := 40) .int (Or.inl ⟨rfl, rfl⟩) dX4_init_23 ac_int (by decide) (by decide) (by decide) ⟨by decide, by decide⟩ ?_
  refine J_putF (k := 2) dX4_init_25 gc_4 fl_RX4_18 (by decide) rfl (fs := [.ref (h.2 + 1), .ref (h.2 + 2), .null, .null, .int 0]) (by simp [g_up, g_push, ho] <;> omega) ⟨h1, by simp only [g_up, g_push]; omega⟩ (Nat.le_of_ble_eq_true rfl) rfl rfl (fun _ => ⟨rfl, rfl⟩) rfl ?_
  refine J_aload_n dX4_init_28 rfl ?_
  refine J_bipush (x := 40) dX4_init_29 (by decide) ?_
  refine J_newi (N := 40) .int (Or.inl ⟨rfl, rfl⟩) dX4_init_31 ac_int (by decide) (by decide) (by decide) ⟨by decide, by decide⟩ ?_
  refine J_putF (k := 3) dX4_init_33 gc_4 fl_RX4_21 (by decide) rfl (fs := [.ref (h.2 + 1), .ref (h.2 + 2), .ref (h.2 + 3), .null, .int 0]) (by simp [g_up, g_push, ho] <;> omega) ⟨h1, by simp only [g_up, g_push]; omega⟩ (Nat.le_of_ble_eq_true rfl) rfl rfl (fun _ => ⟨rfl, rfl⟩) rfl ?_
  exact J_vret dX4_init_36 rfl ⟨rfl, Nat.le_refl _⟩ (hQ _ ⟨by simp [g_up, g_push], fun k hk => by simp [g_up, g_push, show k ≠ h.2 by omega, show k ≠ h.2 + 1 by omega, show k ≠ h.2 + 2 by omega, show k ≠ h.2 + 3 by omega, show k ≠ h.2 + 4 by omega], fun H e1 e2 => ⟨fun _ => 0, fun _ => 0, fun _ => 0, fun _ => 0, ⟨⟨h1, by simp only [g_up, g_push] at e1; omega⟩, ((e2 h.2 (Nat.le_refl _) (by simp only [g_up, g_push]; omega)).trans (by simp [g_up, g_push, nI_0, snI] <;> omega)), ((e2 (h.2 + 1) (by omega) (by simp only [g_up, g_push]; omega)).trans (by simp [g_up, g_push, nI_0, snI] <;> omega)), ((e2 (h.2 + 2) (by omega) (by simp only [g_up, g_push]; omega)).trans (by simp [g_up, g_push, nI_0, snI] <;> omega)), ((e2 (h.2 + 3) (by omega) (by simp only [g_up, g_push]; omega)).trans (by simp [g_up, g_push, nI_0, snI] <;> omega)), ((e2 (h.2 + 4) (by omega) (by simp only [g_up, g_push]; omega)).trans (by simp [g_up, g_push, nI_0, snI] <;> omega))⟩, fun k x q => by simp at q, by simp, fun x q => by simp at q⟩⟩)
theorem l_X2_init {a n d mc ms u v : Nat} {f3 : Nat → Int32} {x1 : Int32} (hn : n ≤ 32) (K : ∀ h' f1 f2, Fr a (a + 4) h h' → JR h' a n 0 f1 f2 f3 → (∀ x, x < n → f1 x = nI x ∧ f2 x = 1) → Q none h') : ∀ (t k : Nat) (h1 : g_H) (f1 f2 : Nat → Int32), n - k < t → k ≤ n → Fr a (a + 4) h h1 → JR h1 a n 0 f1 f2 f3 → (∀ x, x < k → f1 x = nI x ∧ f2 x = 1) → u = mc → v ≤ ms → J m_X2_init d mc ms u v 33 [some (.ref a), some (.int x1), some (.int (nI n)), some (.int (nI k))] [] h1 Q := by
  intro t
  induction t with
  | zero => intro k h1 f1 f2 ht; omega
  | succ t ih =>
    intro k h1 f1 f2 ht hk hF hP hz hu hv
    refine J_iload_n dX2_init_33 rfl ?_
    refine J_iload_n dX2_init_34 rfl ?_
    refine J_icmp_ge (tgt := 58) dX2_init_35 (by decide) (fun c35 => ?_) (fun c35 => ?_)
    · exact J_vret dX2_init_58 rfl ⟨hu, hv⟩ (K h1 f1 f2 hF hP (fun x hx => hz x (by have c35 := (nI_leI (by omega) (by omega)).mp c35; omega)))
    · have c35 : k < n := Nat.not_le.mp (fun q => c35 ((nI_leI (by omega) (by omega)).mpr q))
      refine J_aload_n dX2_init_38 rfl ?_
      refine J_get (k := 0) dX2_init_39 gc_2 fl_RX2_13 (by decide) hP.o hP.b rfl ?_
      refine J_iload_n dX2_init_42 rfl ?_
      refine J_iload_n dX2_init_43 rfl ?_
      refine J_iast dX2_init_44 hP.c1 hP.b1 (vp_in_nI (by omega) (by omega)) ?_
      rw [nI_clamp (n := k) (by omega)]
      replace hP := hP.s1 (upd f1 k (nI k))
      refine J_aload_n dX2_init_45 rfl ?_
      refine J_get (k := 1) dX2_init_46 gc_2 fl_RX2_19 (by decide) hP.o hP.b rfl ?_
      refine J_iload_n dX2_init_49 rfl ?_
      refine J_iconst (x := 1) dX2_init_50 (by decide) ?_
      refine J_iast dX2_init_51 hP.c2 hP.b2 (vp_in_nI (by omega) (by omega)) ?_
      rw [nI_clamp (n := k) (by omega)]
      replace hP := hP.s2 (upd f2 k 1)
      refine J_iinc (L' := [_, _, _, _]) dX2_init_52 rfl (nI_i1 k) (by decide) rfl ?_
      refine J_goto (tgt := 33) dX2_init_55 (by decide) ?_
      exact ih (k + 1) _ _ _ (by omega) (by omega) ((hF.up (by omega) (by omega)).up (by omega) (by omega)) hP (fun x hx => by by_cases q : x = k; (subst q; exact ⟨upd_e _ _ _, upd_e _ _ _⟩); (rw [upd_o _ _ q, upd_o _ _ q]; exact hz x (by omega))) hu hv
theorem s16_X2_init (h1 : 1 ≤ h.2) (ho : h.1 h.2 = .inr (2, [.null, .null, .null, .int 0])) (hQ : ∀ h', NW h h' 3 (fun H => JA H h.2 16 []) → Q none h') : MJ m_X2_init 1 3 48 [.ref h.2, .int 16] h Q := by
  refine MJ_of_J (L := [some (.ref h.2), some (.int 16), none, none]) (by decide +kernel) rfl (Nat.le_of_ble_eq_true rfl) rfl ?_
  refine J_aload_n dX2_init_0 rfl ?_
  refine J_objInit dX2_init_1 ml_RX2_1 im_objectInit co_objectInit (by decide) (Nat.le_of_ble_eq_true rfl) ?_
  refine J_iload_n dX2_init_4 rfl ?_
  refine J_iconst (x := 0) dX2_init_5 (by decide) ?_
  refine J_mmax dX2_init_6 ml_RX2_7 gw_max (by decide) (Nat.le_of_ble_eq_true rfl) ⟨Nat.zero_le _, Nat.zero_le _⟩ ?_
  rw [show (if (16 : Int32) < 0 then (0 : Int32) else 16) = 16 from by decide]
  refine J_istore_n (L' := [_, _, _, _]) dX2_init_9 (by decide) rfl ?_
  refine J_aload_n dX2_init_10 rfl ?_
  refine J_iload_n dX2_init_11 rfl ?_
  refine J_newi (N := 16) .int (Or.inl ⟨rfl, rfl⟩) dX2_init_12 ac_int (by decide) (by decide) (by decide) ⟨by decide, by decide⟩ ?_
  refine J_putF (k := 0) dX2_init_14 gc_2 fl_RX2_13 (by decide) rfl (fs := [.null, .null, .null, .int 0]) (by simp [g_up, g_push, ho] <;> omega) ⟨h1, by simp only [g_up, g_push]; omega⟩ (Nat.le_of_ble_eq_true rfl) rfl rfl (fun _ => ⟨rfl, rfl⟩) rfl ?_
  refine J_aload_n dX2_init_17 rfl ?_
  refine J_iload_n dX2_init_18 rfl ?_
  refine J_newi (N := 16) .int (Or.inl ⟨rfl, rfl⟩) dX2_init_19 ac_int (by decide) (by decide) (by decide) ⟨by decide, by decide⟩ ?_
  refine J_putF (k := 1) dX2_init_21 gc_2 fl_RX2_19 (by decide) rfl (fs := [.ref (h.2 + 1), .null, .null, .int 0]) (by simp [g_up, g_push, ho] <;> omega) ⟨h1, by simp only [g_up, g_push]; omega⟩ (Nat.le_of_ble_eq_true rfl) rfl rfl (fun _ => ⟨rfl, rfl⟩) rfl ?_
  refine J_aload_n dX2_init_24 rfl ?_
  refine J_iload_n dX2_init_25 rfl ?_
  refine J_newi (N := 16) .int (Or.inl ⟨rfl, rfl⟩) dX2_init_26 ac_int (by decide) (by decide) (by decide) ⟨by decide, by decide⟩ ?_
  refine J_putF (k := 2) dX2_init_28 gc_2 fl_RX2_22 (by decide) rfl (fs := [.ref (h.2 + 1), .ref (h.2 + 2), .null, .int 0]) (by simp [g_up, g_push, ho] <;> omega) ⟨h1, by simp only [g_up, g_push]; omega⟩ (Nat.le_of_ble_eq_true rfl) rfl rfl (fun _ => ⟨rfl, rfl⟩) rfl ?_
  refine J_iconst (x := 0) dX2_init_31 (by decide) ?_
  refine J_istore_n (L' := [_, _, _, _]) dX2_init_32 (by decide) rfl ?_
  refine l_X2_init (a := h.2) (n := 16) (f3 := fun _ => 0) (by decide) (fun h2 f1 f2 hF hP hz => hQ h2 ⟨by rw [hF.1]; simp [g_up, g_push], fun k hk => (hF.2 k (Or.inl hk)).trans (by simp [g_up, g_push, show k ≠ h.2 by omega, show k ≠ h.2 + 1 by omega, show k ≠ h.2 + 2 by omega, show k ≠ h.2 + 3 by omega]), fun H e1 e2 => ⟨f1, f2, fun _ => 0, ⟨⟨h1, by have := hP.1.2; omega⟩, (e2 _ (by omega) (by have := hP.1.2; omega)).trans hP.o, (e2 _ (by omega) (by have := hP.1.2; omega)).trans hP.c1, (e2 _ (by omega) (by have := hP.1.2; omega)).trans hP.c2, (e2 _ (by omega) (by have := hP.1.2; omega)).trans hP.c3⟩, ⟨fun x hx => (hz x hx).1, fun x hx => (hz x hx).2, fun i p q => by simp at q⟩, trivial, by simp, by decide⟩⟩) 17 0 _ (fun _ => 0) (fun _ => 0) (by omega) (by omega) Fr.rf ⟨⟨h1, by simp only [g_up, g_push]; omega⟩, (by simp [g_up, g_push] <;> omega), (by simp [g_up, g_push] <;> omega), (by simp [g_up, g_push] <;> omega), (by simp [g_up, g_push] <;> omega)⟩ (fun x hx => by omega) (by decide) (by decide)
theorem s32_X2_init (h1 : 1 ≤ h.2) (ho : h.1 h.2 = .inr (2, [.null, .null, .null, .int 0])) (hQ : ∀ h', NW h h' 3 (fun H => JA H h.2 32 []) → Q none h') : MJ m_X2_init 1 3 96 [.ref h.2, .int 32] h Q := by
  refine MJ_of_J (L := [some (.ref h.2), some (.int 32), none, none]) (by decide +kernel) rfl (Nat.le_of_ble_eq_true rfl) rfl ?_
  refine J_aload_n dX2_init_0 rfl ?_
  refine J_objInit dX2_init_1 ml_RX2_1 im_objectInit co_objectInit (by decide) (Nat.le_of_ble_eq_true rfl) ?_
  refine J_iload_n dX2_init_4 rfl ?_
  refine J_iconst (x := 0) dX2_init_5 (by decide) ?_
  refine J_mmax dX2_init_6 ml_RX2_7 gw_max (by decide) (Nat.le_of_ble_eq_true rfl) ⟨Nat.zero_le _, Nat.zero_le _⟩ ?_
  rw [show (if (32 : Int32) < 0 then (0 : Int32) else 32) = 32 from by decide]
  refine J_istore_n (L' := [_, _, _, _]) dX2_init_9 (by decide) rfl ?_
  refine J_aload_n dX2_init_10 rfl ?_
  refine J_iload_n dX2_init_11 rfl ?_
  refine J_newi (N := 32) .int (Or.inl ⟨rfl, rfl⟩) dX2_init_12 ac_int (by decide) (by decide) (by decide) ⟨by decide, by decide⟩ ?_
  refine J_putF (k := 0) dX2_init_14 gc_2 fl_RX2_13 (by decide) rfl (fs := [.null, .null, .null, .int 0]) (by simp [g_up, g_push, ho] <;> omega) ⟨h1, by simp only [g_up, g_push]; omega⟩ (Nat.le_of_ble_eq_true rfl) rfl rfl (fun _ => ⟨rfl, rfl⟩) rfl ?_
  refine J_aload_n dX2_init_17 rfl ?_
  refine J_iload_n dX2_init_18 rfl ?_
  refine J_newi (N := 32) .int (Or.inl ⟨rfl, rfl⟩) dX2_init_19 ac_int (by decide) (by decide) (by decide) ⟨by decide, by decide⟩ ?_
  refine J_putF (k := 1) dX2_init_21 gc_2 fl_RX2_19 (by decide) rfl (fs := [.ref (h.2 + 1), .null, .null, .int 0]) (by simp [g_up, g_push, ho] <;> omega) ⟨h1, by simp only [g_up, g_push]; omega⟩ (Nat.le_of_ble_eq_true rfl) rfl rfl (fun _ => ⟨rfl, rfl⟩) rfl ?_
  refine J_aload_n dX2_init_24 rfl ?_
  refine J_iload_n dX2_init_25 rfl ?_
  refine J_newi (N := 32) .int (Or.inl ⟨rfl, rfl⟩) dX2_init_26 ac_int (by decide) (by decide) (by decide) ⟨by decide, by decide⟩ ?_
  refine J_putF (k := 2) dX2_init_28 gc_2 fl_RX2_22 (by decide) rfl (fs := [.ref (h.2 + 1), .ref (h.2 + 2), .null, .int 0]) (by simp [g_up, g_push, ho] <;> omega) ⟨h1, by simp only [g_up, g_push]; omega⟩ (Nat.le_of_ble_eq_true rfl) rfl rfl (fun _ => ⟨rfl, rfl⟩) rfl ?_
  refine J_iconst (x := 0) dX2_init_31 (by decide) ?_
  refine J_istore_n (L' := [_, _, _, _]) dX2_init_32 (by decide) rfl ?_
  refine l_X2_init (a := h.2) (n := 32) (f3 := fun _ => 0) (by decide) (fun h2 f1 f2 hF hP hz => hQ h2 ⟨by rw [hF.1]; simp [g_up, g_push], fun k hk => (hF.2 k (Or.inl hk)).trans (by simp [g_up, g_push, show k ≠ h.2 by omega, show k ≠ h.2 + 1 by omega, show k ≠ h.2 + 2 by omega, show k ≠ h.2 + 3 by omega]), fun H e1 e2 => ⟨f1, f2, fun _ => 0, ⟨⟨h1, by have := hP.1.2; omega⟩, (e2 _ (by omega) (by have := hP.1.2; omega)).trans hP.o, (e2 _ (by omega) (by have := hP.1.2; omega)).trans hP.c1, (e2 _ (by omega) (by have := hP.1.2; omega)).trans hP.c2, (e2 _ (by omega) (by have := hP.1.2; omega)).trans hP.c3⟩, ⟨fun x hx => (hz x hx).1, fun x hx => (hz x hx).2, fun i p q => by simp at q⟩, trivial, by simp, by decide⟩⟩) 33 0 _ (fun _ => 0) (fun _ => 0) (by omega) (by omega) Fr.rf ⟨⟨h1, by simp only [g_up, g_push]; omega⟩, (by simp [g_up, g_push] <;> omega), (by simp [g_up, g_push] <;> omega), (by simp [g_up, g_push] <;> omega), (by simp [g_up, g_push] <;> omega)⟩ (fun x hx => by omega) (by decide) (by decide)
end SInit
