theorem ao_q : Cond.arrayOver (.object "LivedLinks$Links") ∈ lw_tbl := by decide +kernel
theorem nest_in : ∀ q ∈ lw_nest, Cond.methodLinkNest q.1 q.2.1 q.2.2.1 q.2.2.2 ∈ lw_tbl := by decide +kernel
theorem lw_world {b : Nat} {s : State} (hts : ∀ w ∈ lw_tbl, w.before #[Value.ref b] s = true) : ∃ (D : va_G) (cA : Nat → ClassId), g_K D cA s := by
  have hg : ∀ w ∈ lw_gd, w.before #[Value.ref b] s = true := fun w hw => hts w (List.mem_filter.mp hw).1
  obtain ⟨c0, i0, k0⟩ := u_known (C := RX0) (T := TX0) (N := 7) hg gc_0.2.1 (hg _ ins_RX0)
  obtain ⟨c1, i1, k1⟩ := u_known (C := RX1) (T := TX1) (N := 2) hg gc_1.2.1 (hg _ ins_RX1)
  obtain ⟨c2, i2, k2⟩ := u_known (C := RX2) (T := TX2) (N := 4) hg gc_2.2.1 (hg _ ins_RX2)
  obtain ⟨c3, i3, k3⟩ := u_known (C := RX3) (T := TX3) (N := 3) hg gc_3.2.1 (hg _ ins_RX3)
  obtain ⟨c4, i4, k4⟩ := u_known (C := RX4) (T := TX4) (N := 5) hg gc_4.2.1 (hg _ ins_RX4)
  obtain ⟨c5, i5, k5⟩ := u_known (C := RX5) (T := TX5) (N := 2) hg gc_5.2.1 (hg _ ins_RX5)
  obtain ⟨c6, i6, k6⟩ := u_known (C := RX6) (T := TX6) (N := 9) hg gc_6.2.1 (hg _ ins_RX6)
  obtain ⟨c8, i8, k8⟩ := u_known (C := RX8) (T := TX8) (N := 6) hg gc_8.2.1 (hg _ ins_RX8)
  have kO : va_AO "LivedLinks$Links" s := va_AO.of (hts _ ao_q)
  obtain ⟨comp, cq, kq, f3, f0, f1, f2, f4⟩ := Cond.arrayOver_spec kO
  obtain ⟨ci, ki, compi, a1, a2, a3⟩ := Cond.arrayClass_spec (hg _ ac_int)
  obtain ⟨cc, kc, compc, b1, b2, b3⟩ := Cond.arrayClass_spec (hg _ ac_char)
  refine ⟨(fun k => match k with | 0 => c0 | 1 => c1 | 2 => c2 | 3 => c3 | 4 => c4 | 5 => c5 | 6 => c6 | 7 => c0 | _ => c8, fun k => match k with | 0 => i0 | 1 => i1 | 2 => i2 | 3 => i3 | 4 => i4 | 5 => i5 | 6 => i6 | 7 => i0 | _ => i8), fun k => match k with | 0 => ci | 1 => cc | _ => cq, ⟨fun c q hq => ?_, fun k q hq => ?_⟩, kO, fun q hq => va_Nw.of rfl (hts _ (nest_in q hq))⟩
  · have hc : c < 9 := (List.getElem?_eq_some_iff.mp hq).1
    rcases (show c = 0 ∨ c = 1 ∨ c = 2 ∨ c = 3 ∨ c = 4 ∨ c = 5 ∨ c = 6 ∨ c = 7 ∨ c = 8 by omega) with rfl | rfl | rfl | rfl | rfl | rfl | rfl | rfl | rfl <;> cases hq <;> assumption
  · have hc : k < 3 := (List.getElem?_eq_some_iff.mp hq).1
    rcases (show k = 0 ∨ k = 1 ∨ k = 2 by omega) with rfl | rfl | rfl
    · cases hq
      exact ⟨fun N z => ⟨(fun k h => by cases h), ki, a2, compi, a3⟩, a1⟩
    · cases hq
      exact ⟨fun N z => ⟨(fun k h => by cases h), kc, b2, compc, b3⟩, b1⟩
    · cases hq
      exact ⟨fun N z => ⟨(fun k h => by cases h), kq, f1, comp, f2⟩, kq, comp, f1, f2, f3, f4⟩
