theorem VI.o {h : g_H} {a : Nat} {s : St} (p : VI h a s) : ∃ fs, h.1 a = .inr (7, fs) := by
  obtain ⟨f, g, hh, sn, tx, rd, sp, nu, rm, hR, -⟩ := p
  exact ⟨_, hR.o⟩
theorem VI.bo {h : g_H} {a : Nat} {s : St} (p : VI h a s) : 1 ≤ a ∧ a ≤ h.2 := by
  obtain ⟨f, g, hh, sn, tx, rd, sp, nu, rm, hR, -⟩ := p
  exact hR.bo
theorem VI.fr {h h' : g_H} {a lo hi : Nat} {s : St} (p : VI h a s) (F : Fr lo hi h h') (q : a + 7 ≤ lo ∨ hi ≤ a) : VI h' a s := by
  obtain ⟨f, g, hh, sn, tx, rd, sp, nu, rm, hR, t⟩ := p
  exact ⟨f, g, hh, sn, tx, rd, sp, nu, rm, hR.fr F q, t⟩
abbrev m_law (N : Nat) (xs : Nat → Int32) : g_M := (x, code, 4, ret, some (N, xs))
theorem i2c_n (y : Int32) : ∃ c : Nat, c < 65536 ∧ (y.toUInt32 % 65536).toInt32 = nI c := by
  refine ⟨(y.toUInt32 % 65536).toNat, ?_, ?_⟩
  · rw [UInt32.toNat_mod]
    exact Nat.mod_lt _ (by decide)
  · generalize y.toUInt32 % 65536 = z
    show z.toInt32 = Int32.ofNat z.toNat
    exact (Int32.toBitVec_inj.mp (by
      show z.toBitVec = BitVec.ofNat 32 z.toBitVec.toNat
      rw [BitVec.ofNat_toNat, BitVec.setWidth_eq]))
theorem nI_m5l {N i : Nat} (hN : N ≤ 2560) (hi : i ≤ 3000) : nI N - nI 5 < nI i ↔ N < i + 5 := by
  rw [Int32.lt_iff_toInt_lt, pk_sub_toInt (a := N) (b := 5) (by omega) (by omega), nI_toInt (by omega)]
  omega
theorem l_L_law {N : Nat} {xs : Nat → Int32} (hN : N ≤ 2560) : ∀ (t i : Nat) (h : g_H) (s : St), N - i < t → i ≤ N + 5 → h.2 = 63 → CI h 1 s → VI h 57 s → J (m_law N xs) 9 63 2698 63 2698 18 [some (.ref 0), some (.ref 1), some (.ref 57), some (.int (nI i))] [] h (fun r _ => r = some (.int 1)) := by
  intro t
  induction t with
  | zero => intro i h s ht
            exact fun _ _ _ _ _ _ => absurd ht (Nat.not_lt_zero _)
  | succ t ih =>
    intro i h s ht hi hz hC hV
    have hle : ¬ (nI N - nI 5 < nI i) → i + 5 ≤ N := fun q => Nat.not_lt.mp (fun z => q ((nI_m5l hN (by omega)).mpr z))
    obtain ⟨fsC, hOC⟩ : ∃ fs, h.1 1 = .inr (6, fs) := ⟨_, hC.o⟩
    refine J_iload_n dL_law_18 rfl ?_
    refine J_aload_n dL_law_19 rfl ?_
    refine J_slen rfl dL_law_20 ?_
    refine J_iconst (x := 5) dL_law_21 (by decide) ?_
    refine J_isub dL_law_22 ?_
    have e22 : Int32.ofNat N - 5 = nI N - nI 5 := rfl
    rw [e22]
    refine J_icmp_gt (tgt := 716) dL_law_23 (by decide) (fun c23 => ?_) (fun c23 => ?_)
    · refine J_iconst (x := 1) dL_law_716 (by decide) ?_
      exact J_zret dL_law_717 rfl (by first | exact Or.inl rfl | exact Or.inr rfl) ⟨rfl, Nat.le_refl _⟩ (rfl)
    · have c23 : i + 5 ≤ N := hle c23
      refine J_aload_n dL_law_26 rfl ?_
      refine J_iload_n dL_law_27 rfl ?_
      refine J_sld rfl dL_law_28 (vp_in_nI (by omega) (by omega)) ?_
      refine J_bipush (x := 31) dL_law_29 (by decide) ?_
      refine J_iand dL_law_31 ?_
      generalize xs (nI i).toNatClampNeg &&& 31 = w
      rcases sw_of w 20 (by decide) with hsw | ⟨jsw, hjsw, rfl⟩
      · refine J_tsOut (tgt := 710) dL_law_32 (by rcases hsw with q | q; exact Or.inl q; exact Or.inr (by omega)) (by decide) ?_
        refine J_iinc (L' := [_, _, _, _]) dL_law_710 rfl (nI_add i 5) (show 3 < 4 by decide) rfl ?_
        refine J_goto (tgt := 18) dL_law_713 (by decide) ?_
        exact ih (i + 5) h s (by omega) (by omega) hz hC hV
      · rcases (show jsw = 0 ∨ jsw = 1 ∨ jsw = 2 ∨ jsw = 3 ∨ jsw = 4 ∨ jsw = 5 ∨ jsw = 6 ∨ jsw = 7 ∨ jsw = 8 ∨ jsw = 9 ∨ jsw = 10 ∨ jsw = 11 ∨ jsw = 12 ∨ jsw = 13 ∨ jsw = 14 ∨ jsw = 15 ∨ jsw = 16 ∨ jsw = 17 ∨ jsw = 18 ∨ jsw = 19 by omega) with rfl | rfl | rfl | rfl | rfl | rfl | rfl | rfl | rfl | rfl | rfl | rfl | rfl | rfl | rfl | rfl | rfl | rfl | rfl | rfl
        · refine J_tsIn (off := 96) (tgt := 128) dL_law_32 (by decide) (by decide) (by decide) (by decide) ?_
          refine J_aload_n dL_law_128 rfl ?_
          refine J_aload_n dL_law_129 rfl ?_
          refine J_iload_n dL_law_130 rfl ?_
          refine J_iconst (x := 1) dL_law_131 (by decide) ?_
          refine J_iadd dL_law_132 ?_
          rw [show nI i + (1 : Int32) = nI (i + 1) from nI_add i 1]
          refine J_sld rfl dL_law_133 (vp_in_nI (by omega) (by omega)) ?_
          refine J_aload_n dL_law_134 rfl ?_
          refine J_iload_n dL_law_135 rfl ?_
          refine J_iconst (x := 2) dL_law_136 (by decide) ?_
          refine J_iadd dL_law_137 ?_
          rw [show nI i + (2 : Int32) = nI (i + 2) from nI_add i 2]
          refine J_sld rfl dL_law_138 (vp_in_nI (by omega) (by omega)) ?_
          refine J_aload_n dL_law_139 rfl ?_
          refine J_iload_n dL_law_140 rfl ?_
          refine J_iconst (x := 3) dL_law_141 (by decide) ?_
          refine J_iadd dL_law_142 ?_
          rw [show nI i + (3 : Int32) = nI (i + 3) from nI_add i 3]
          refine J_sld rfl dL_law_143 (vp_in_nI (by omega) (by omega)) ?_
          refine J_aload_n dL_law_144 rfl ?_
          refine J_iload_n dL_law_145 rfl ?_
          refine J_iconst (x := 4) dL_law_146 (by decide) ?_
          refine J_iadd dL_law_147 ?_
          rw [show nI i + (4 : Int32) = nI (i + 4) from nI_add i 4]
          refine J_sld rfl dL_law_148 (vp_in_nI (by omega) (by omega)) ?_
          refine J_callV (As := [_, _, _, _]) (rest := []) (M' := m_X6_addLink) dL_law_149 ml_R_law_13 gm_X6_addLink gv_X6_addLink hC.o hC.bo rfl rfl rfl (Nat.le_of_ble_eq_true rfl) (by decide) ⟨rfl, rfl, by decide, by decide⟩ (s_X6_addLink hC (fun h1 r1 s1 e1 F1 C1 => ?_))
          have V1 := hV.fr F1 (by omega)
          obtain ⟨fsV, hOV⟩ := V1.o
          have hBV := V1.bo
          refine J_aload_n dL_law_152 rfl ?_
          refine J_aload_n dL_law_153 rfl ?_
          refine J_iload_n dL_law_154 rfl ?_
          refine J_iconst (x := 1) dL_law_155 (by decide) ?_
          refine J_iadd dL_law_156 ?_
          rw [show nI i + (1 : Int32) = nI (i + 1) from nI_add i 1]
          refine J_sld rfl dL_law_157 (vp_in_nI (by omega) (by omega)) ?_
          refine J_aload_n dL_law_158 rfl ?_
          refine J_iload_n dL_law_159 rfl ?_
          refine J_iconst (x := 2) dL_law_160 (by decide) ?_
          refine J_iadd dL_law_161 ?_
          rw [show nI i + (2 : Int32) = nI (i + 2) from nI_add i 2]
          refine J_sld rfl dL_law_162 (vp_in_nI (by omega) (by omega)) ?_
          refine J_aload_n dL_law_163 rfl ?_
          refine J_iload_n dL_law_164 rfl ?_
          refine J_iconst (x := 3) dL_law_165 (by decide) ?_
          refine J_iadd dL_law_166 ?_
          rw [show nI i + (3 : Int32) = nI (i + 3) from nI_add i 3]
          refine J_sld rfl dL_law_167 (vp_in_nI (by omega) (by omega)) ?_
          refine J_aload_n dL_law_168 rfl ?_
          refine J_iload_n dL_law_169 rfl ?_
          refine J_iconst (x := 4) dL_law_170 (by decide) ?_
          refine J_iadd dL_law_171 ?_
          rw [show nI i + (4 : Int32) = nI (i + 4) from nI_add i 4]
          refine J_sld rfl dL_law_172 (vp_in_nI (by omega) (by omega)) ?_
          refine J_callV (As := [_, _, _, _]) (rest := [_]) (M' := m_X7_addLink) dL_law_173 ml_R_law_17 gm_X7_addLink gv_X7_addLink hOV hBV rfl rfl rfl (Nat.le_of_ble_eq_true rfl) (by decide) ⟨rfl, rfl, by decide, by decide⟩ (s_X7_addLink V1 (fun h2 r2 s2 e2 F2 V2 => ?_))
          have er : r1 = r2 := congrArg Prod.fst (e1.trans e2.symm)
          have es : s1 = s2 := congrArg Prod.snd (e1.trans e2.symm)
          subst es
          have C2 := C1.fr F2 (by omega)
          have z2 : h2.2 = 63 := by rw [F2.1, F1.1]; exact hz
          refine J_icmp_eq (tgt := 710) dL_law_176 (by decide) (fun c176 => ?_) (fun c176 => absurd er c176)
          refine J_iinc (L' := [_, _, _, _]) dL_law_710 rfl (nI_add i 5) (show 3 < 4 by decide) rfl ?_
          refine J_goto (tgt := 18) dL_law_713 (by decide) ?_
          exact ih (i + 5) h2 s1 (by omega) (by omega) z2 C2 V2
        · refine J_tsIn (off := 149) (tgt := 181) dL_law_32 (by decide) (by decide) (by decide) (by decide) ?_
          refine J_aload_n dL_law_181 rfl ?_
          refine J_aload_n dL_law_182 rfl ?_
          refine J_iload_n dL_law_183 rfl ?_
          refine J_iconst (x := 1) dL_law_184 (by decide) ?_
          refine J_iadd dL_law_185 ?_
          rw [show nI i + (1 : Int32) = nI (i + 1) from nI_add i 1]
          refine J_sld rfl dL_law_186 (vp_in_nI (by omega) (by omega)) ?_
          refine J_callV (As := [_]) (rest := []) (M' := m_X6_removeLink) dL_law_187 ml_R_law_18 gm_X6_removeLink gv_X6_removeLink hC.o hC.bo rfl rfl rfl (Nat.le_of_ble_eq_true rfl) (by decide) ⟨rfl, rfl, by decide, by decide⟩ (s_X6_removeLink hC (fun h1 r1 s1 e1 F1 C1 => ?_))
          have V1 := hV.fr F1 (by omega)
          obtain ⟨fsV, hOV⟩ := V1.o
          have hBV := V1.bo
          refine J_aload_n dL_law_190 rfl ?_
          refine J_aload_n dL_law_191 rfl ?_
          refine J_iload_n dL_law_192 rfl ?_
          refine J_iconst (x := 1) dL_law_193 (by decide) ?_
          refine J_iadd dL_law_194 ?_
          rw [show nI i + (1 : Int32) = nI (i + 1) from nI_add i 1]
          refine J_sld rfl dL_law_195 (vp_in_nI (by omega) (by omega)) ?_
          refine J_callV (As := [_]) (rest := [_]) (M' := m_X7_removeLink) dL_law_196 ml_R_law_22 gm_X7_removeLink gv_X7_removeLink hOV hBV rfl rfl rfl (Nat.le_of_ble_eq_true rfl) (by decide) ⟨rfl, rfl, by decide, by decide⟩ (s_X7_removeLink V1 (fun h2 r2 s2 e2 F2 V2 => ?_))
          have er : r1 = r2 := congrArg Prod.fst (e1.trans e2.symm)
          have es : s1 = s2 := congrArg Prod.snd (e1.trans e2.symm)
          subst es
          have C2 := C1.fr F2 (by omega)
          have z2 : h2.2 = 63 := by rw [F2.1, F1.1]; exact hz
          refine J_icmp_eq (tgt := 710) dL_law_199 (by decide) (fun c199 => ?_) (fun c199 => absurd er c199)
          refine J_iinc (L' := [_, _, _, _]) dL_law_710 rfl (nI_add i 5) (show 3 < 4 by decide) rfl ?_
          refine J_goto (tgt := 18) dL_law_713 (by decide) ?_
          exact ih (i + 5) h2 s1 (by omega) (by omega) z2 C2 V2
        · refine J_tsIn (off := 172) (tgt := 204) dL_law_32 (by decide) (by decide) (by decide) (by decide) ?_
          refine J_aload_n dL_law_204 rfl ?_
          refine J_aload_n dL_law_205 rfl ?_
          refine J_iload_n dL_law_206 rfl ?_
          refine J_iconst (x := 1) dL_law_207 (by decide) ?_
          refine J_iadd dL_law_208 ?_
          rw [show nI i + (1 : Int32) = nI (i + 1) from nI_add i 1]
          refine J_sld rfl dL_law_209 (vp_in_nI (by omega) (by omega)) ?_
          refine J_aload_n dL_law_210 rfl ?_
          refine J_iload_n dL_law_211 rfl ?_
          refine J_iconst (x := 2) dL_law_212 (by decide) ?_
          refine J_iadd dL_law_213 ?_
          rw [show nI i + (2 : Int32) = nI (i + 2) from nI_add i 2]
          refine J_sld rfl dL_law_214 (vp_in_nI (by omega) (by omega)) ?_
          refine J_aload_n dL_law_215 rfl ?_
          refine J_iload_n dL_law_216 rfl ?_
          refine J_iconst (x := 3) dL_law_217 (by decide) ?_
          refine J_iadd dL_law_218 ?_
          rw [show nI i + (3 : Int32) = nI (i + 3) from nI_add i 3]
          refine J_sld rfl dL_law_219 (vp_in_nI (by omega) (by omega)) ?_
          refine J_callV (As := [_, _, _]) (rest := []) (M' := m_X6_setLife) dL_law_220 ml_R_law_23 gm_X6_setLife gv_X6_setLife hC.o hC.bo rfl rfl rfl (Nat.le_of_ble_eq_true rfl) (by decide) ⟨rfl, rfl, by decide, by decide⟩ (s_X6_setLife hC (fun h1 r1 s1 e1 F1 C1 => ?_))
          have V1 := hV.fr F1 (by omega)
          obtain ⟨fsV, hOV⟩ := V1.o
          have hBV := V1.bo
          refine J_aload_n dL_law_223 rfl ?_
          refine J_aload_n dL_law_224 rfl ?_
          refine J_iload_n dL_law_225 rfl ?_
          refine J_iconst (x := 1) dL_law_226 (by decide) ?_
          refine J_iadd dL_law_227 ?_
          rw [show nI i + (1 : Int32) = nI (i + 1) from nI_add i 1]
          refine J_sld rfl dL_law_228 (vp_in_nI (by omega) (by omega)) ?_
          refine J_aload_n dL_law_229 rfl ?_
          refine J_iload_n dL_law_230 rfl ?_
          refine J_iconst (x := 2) dL_law_231 (by decide) ?_
          refine J_iadd dL_law_232 ?_
          rw [show nI i + (2 : Int32) = nI (i + 2) from nI_add i 2]
          refine J_sld rfl dL_law_233 (vp_in_nI (by omega) (by omega)) ?_
          refine J_aload_n dL_law_234 rfl ?_
          refine J_iload_n dL_law_235 rfl ?_
          refine J_iconst (x := 3) dL_law_236 (by decide) ?_
          refine J_iadd dL_law_237 ?_
          rw [show nI i + (3 : Int32) = nI (i + 3) from nI_add i 3]
          refine J_sld rfl dL_law_238 (vp_in_nI (by omega) (by omega)) ?_
          refine J_callV (As := [_, _, _]) (rest := [_]) (M' := m_X7_setLife) dL_law_239 ml_R_law_27 gm_X7_setLife gv_X7_setLife hOV hBV rfl rfl rfl (Nat.le_of_ble_eq_true rfl) (by decide) ⟨rfl, rfl, by decide, by decide⟩ (s_X7_setLife V1 (fun h2 r2 s2 e2 F2 V2 => ?_))
          have er : r1 = r2 := congrArg Prod.fst (e1.trans e2.symm)
          have es : s1 = s2 := congrArg Prod.snd (e1.trans e2.symm)
          subst es
          have C2 := C1.fr F2 (by omega)
          have z2 : h2.2 = 63 := by rw [F2.1, F1.1]; exact hz
          refine J_icmp_eq (tgt := 710) dL_law_242 (by decide) (fun c242 => ?_) (fun c242 => absurd er c242)
          refine J_iinc (L' := [_, _, _, _]) dL_law_710 rfl (nI_add i 5) (show 3 < 4 by decide) rfl ?_
          refine J_goto (tgt := 18) dL_law_713 (by decide) ?_
          exact ih (i + 5) h2 s1 (by omega) (by omega) z2 C2 V2
        · refine J_tsIn (off := 215) (tgt := 247) dL_law_32 (by decide) (by decide) (by decide) (by decide) ?_
          refine J_aload_n dL_law_247 rfl ?_
          refine J_aload_n dL_law_248 rfl ?_
          refine J_iload_n dL_law_249 rfl ?_
          refine J_iconst (x := 1) dL_law_250 (by decide) ?_
          refine J_iadd dL_law_251 ?_
          rw [show nI i + (1 : Int32) = nI (i + 1) from nI_add i 1]
          refine J_sld rfl dL_law_252 (vp_in_nI (by omega) (by omega)) ?_
          refine J_aload_n dL_law_253 rfl ?_
          refine J_iload_n dL_law_254 rfl ?_
          refine J_iconst (x := 2) dL_law_255 (by decide) ?_
          refine J_iadd dL_law_256 ?_
          rw [show nI i + (2 : Int32) = nI (i + 2) from nI_add i 2]
          refine J_sld rfl dL_law_257 (vp_in_nI (by omega) (by omega)) ?_
          refine J_callV (As := [_, _]) (rest := []) (M' := m_X6_cut) dL_law_258 ml_R_law_28 gm_X6_cut gv_X6_cut hC.o hC.bo rfl rfl rfl (Nat.le_of_ble_eq_true rfl) (by decide) ⟨rfl, rfl, by decide, by decide⟩ (s_X6_cut hC (fun h1 r1 s1 e1 F1 C1 => ?_))
          have V1 := hV.fr F1 (by omega)
          obtain ⟨fsV, hOV⟩ := V1.o
          have hBV := V1.bo
          refine J_aload_n dL_law_261 rfl ?_
          refine J_aload_n dL_law_262 rfl ?_
          refine J_iload_n dL_law_263 rfl ?_
          refine J_iconst (x := 1) dL_law_264 (by decide) ?_
          refine J_iadd dL_law_265 ?_
          rw [show nI i + (1 : Int32) = nI (i + 1) from nI_add i 1]
          refine J_sld rfl dL_law_266 (vp_in_nI (by omega) (by omega)) ?_
          refine J_aload_n dL_law_267 rfl ?_
          refine J_iload_n dL_law_268 rfl ?_
          refine J_iconst (x := 2) dL_law_269 (by decide) ?_
          refine J_iadd dL_law_270 ?_
          rw [show nI i + (2 : Int32) = nI (i + 2) from nI_add i 2]
          refine J_sld rfl dL_law_271 (vp_in_nI (by omega) (by omega)) ?_
          refine J_callV (As := [_, _]) (rest := [_]) (M' := m_X7_cut) dL_law_272 ml_R_law_32 gm_X7_cut gv_X7_cut hOV hBV rfl rfl rfl (Nat.le_of_ble_eq_true rfl) (by decide) ⟨rfl, rfl, by decide, by decide⟩ (s_X7_cut V1 (fun h2 r2 s2 e2 F2 V2 => ?_))
          have er : r1 = r2 := congrArg Prod.fst (e1.trans e2.symm)
          have es : s1 = s2 := congrArg Prod.snd (e1.trans e2.symm)
          subst es
          have C2 := C1.fr F2 (by omega)
          have z2 : h2.2 = 63 := by rw [F2.1, F1.1]; exact hz
          refine J_icmp_eq (tgt := 710) dL_law_275 (by decide) (fun c275 => ?_) (fun c275 => absurd er c275)
          refine J_iinc (L' := [_, _, _, _]) dL_law_710 rfl (nI_add i 5) (show 3 < 4 by decide) rfl ?_
          refine J_goto (tgt := 18) dL_law_713 (by decide) ?_
          exact ih (i + 5) h2 s1 (by omega) (by omega) z2 C2 V2
        · refine J_tsIn (off := 248) (tgt := 280) dL_law_32 (by decide) (by decide) (by decide) (by decide) ?_
          refine J_aload_n dL_law_280 rfl ?_
          refine J_callV (As := []) (rest := []) (M' := m_X6_readLinks) dL_law_281 ml_R_law_33 gm_X6_readLinks gv_X6_readLinks hC.o hC.bo rfl rfl rfl (Nat.le_of_ble_eq_true rfl) (by decide) ⟨rfl, rfl, by decide, by decide⟩ (s_X6_readLinks hC (fun h1 r1 s1 e1 F1 C1 => ?_))
          have V1 := hV.fr F1 (by omega)
          obtain ⟨fsV, hOV⟩ := V1.o
          have hBV := V1.bo
          refine J_aload_n dL_law_284 rfl ?_
          refine J_callV (As := []) (rest := [_]) (M' := m_X7_readLinks) dL_law_285 ml_R_law_37 gm_X7_readLinks gv_X7_readLinks hOV hBV rfl rfl rfl (Nat.le_of_ble_eq_true rfl) (by decide) ⟨rfl, rfl, by decide, by decide⟩ (s_X7_readLinks V1 (fun h2 r2 s2 e2 F2 V2 => ?_))
          have er : r1 = r2 := congrArg Prod.fst (e1.trans e2.symm)
          have es : s1 = s2 := congrArg Prod.snd (e1.trans e2.symm)
          subst es
          have C2 := C1.fr F2 (by omega)
          have z2 : h2.2 = 63 := by rw [F2.1, F1.1]; exact hz
          refine J_icmp_eq (tgt := 710) dL_law_288 (by decide) (fun c288 => ?_) (fun c288 => absurd er c288)
          refine J_iinc (L' := [_, _, _, _]) dL_law_710 rfl (nI_add i 5) (show 3 < 4 by decide) rfl ?_
          refine J_goto (tgt := 18) dL_law_713 (by decide) ?_
          exact ih (i + 5) h2 s1 (by omega) (by omega) z2 C2 V2
        · refine J_tsIn (off := 261) (tgt := 293) dL_law_32 (by decide) (by decide) (by decide) (by decide) ?_
          refine J_aload_n dL_law_293 rfl ?_
          refine J_aload_n dL_law_294 rfl ?_
          refine J_iload_n dL_law_295 rfl ?_
          refine J_iconst (x := 1) dL_law_296 (by decide) ?_
          refine J_iadd dL_law_297 ?_
          rw [show nI i + (1 : Int32) = nI (i + 1) from nI_add i 1]
          refine J_sld rfl dL_law_298 (vp_in_nI (by omega) (by omega)) ?_
          refine J_callV (As := [_]) (rest := []) (M' := m_X6_clear) dL_law_299 ml_R_law_38 gm_X6_clear gv_X6_clear hC.o hC.bo rfl rfl rfl (Nat.le_of_ble_eq_true rfl) (by decide) ⟨rfl, rfl, by decide, by decide⟩ (s_X6_clear hC (fun h1 r1 s1 e1 F1 C1 => ?_))
          have V1 := hV.fr F1 (by omega)
          obtain ⟨fsV, hOV⟩ := V1.o
          have hBV := V1.bo
          refine J_aload_n dL_law_302 rfl ?_
          refine J_aload_n dL_law_303 rfl ?_
          refine J_iload_n dL_law_304 rfl ?_
          refine J_iconst (x := 1) dL_law_305 (by decide) ?_
          refine J_iadd dL_law_306 ?_
          rw [show nI i + (1 : Int32) = nI (i + 1) from nI_add i 1]
          refine J_sld rfl dL_law_307 (vp_in_nI (by omega) (by omega)) ?_
          refine J_callV (As := [_]) (rest := [_]) (M' := m_X7_clear) dL_law_308 ml_R_law_41 gm_X7_clear gv_X7_clear hOV hBV rfl rfl rfl (Nat.le_of_ble_eq_true rfl) (by decide) ⟨rfl, rfl, by decide, by decide⟩ (s_X7_clear V1 (fun h2 r2 s2 e2 F2 V2 => ?_))
          have er : r1 = r2 := congrArg Prod.fst (e1.trans e2.symm)
          have es : s1 = s2 := congrArg Prod.snd (e1.trans e2.symm)
          subst es
          have C2 := C1.fr F2 (by omega)
          have z2 : h2.2 = 63 := by rw [F2.1, F1.1]; exact hz
          refine J_icmp_eq (tgt := 710) dL_law_311 (by decide) (fun c311 => ?_) (fun c311 => absurd er c311)
          refine J_iinc (L' := [_, _, _, _]) dL_law_710 rfl (nI_add i 5) (show 3 < 4 by decide) rfl ?_
          refine J_goto (tgt := 18) dL_law_713 (by decide) ?_
          exact ih (i + 5) h2 s1 (by omega) (by omega) z2 C2 V2
        · refine J_tsIn (off := 284) (tgt := 316) dL_law_32 (by decide) (by decide) (by decide) (by decide) ?_
          refine J_aload_n dL_law_316 rfl ?_
          refine J_aload_n dL_law_317 rfl ?_
          refine J_iload_n dL_law_318 rfl ?_
          refine J_iconst (x := 1) dL_law_319 (by decide) ?_
          refine J_iadd dL_law_320 ?_
          rw [show nI i + (1 : Int32) = nI (i + 1) from nI_add i 1]
          refine J_sld rfl dL_law_321 (vp_in_nI (by omega) (by omega)) ?_
          refine J_i2c dL_law_322 ?_
          obtain ⟨c, hc, hce⟩ := i2c_n (xs (nI (i + 1)).toNatClampNeg)
          rw [hce]
          refine J_callV (As := [_]) (rest := []) (M' := m_X6_type) dL_law_323 ml_R_law_42 gm_X6_type gv_X6_type hC.o hC.bo rfl rfl rfl (Nat.le_of_ble_eq_true rfl) (by decide) ⟨rfl, rfl, by decide, by decide⟩ (s_X6_type hc hC (fun h1 r1 s1 e1 F1 C1 => ?_))
          have V1 := hV.fr F1 (by omega)
          obtain ⟨fsV, hOV⟩ := V1.o
          have hBV := V1.bo
          refine J_aload_n dL_law_326 rfl ?_
          refine J_aload_n dL_law_327 rfl ?_
          refine J_iload_n dL_law_328 rfl ?_
          refine J_iconst (x := 1) dL_law_329 (by decide) ?_
          refine J_iadd dL_law_330 ?_
          rw [show nI i + (1 : Int32) = nI (i + 1) from nI_add i 1]
          refine J_sld rfl dL_law_331 (vp_in_nI (by omega) (by omega)) ?_
          refine J_i2c dL_law_332 ?_
          rw [hce]
          refine J_callV (As := [_]) (rest := [_]) (M' := m_X7_type) dL_law_333 ml_R_law_46 gm_X7_type gv_X7_type hOV hBV rfl rfl rfl (Nat.le_of_ble_eq_true rfl) (by decide) ⟨rfl, rfl, by decide, by decide⟩ (s_X7_type hc V1 (fun h2 r2 s2 e2 F2 V2 => ?_))
          have er : r1 = r2 := congrArg Prod.fst (e1.trans e2.symm)
          have es : s1 = s2 := congrArg Prod.snd (e1.trans e2.symm)
          subst es
          have C2 := C1.fr F2 (by omega)
          have z2 : h2.2 = 63 := by rw [F2.1, F1.1]; exact hz
          refine J_icmp_eq (tgt := 710) dL_law_336 (by decide) (fun c336 => ?_) (fun c336 => absurd er c336)
          refine J_iinc (L' := [_, _, _, _]) dL_law_710 rfl (nI_add i 5) (show 3 < 4 by decide) rfl ?_
          refine J_goto (tgt := 18) dL_law_713 (by decide) ?_
          exact ih (i + 5) h2 s1 (by omega) (by omega) z2 C2 V2
        · refine J_tsIn (off := 309) (tgt := 341) dL_law_32 (by decide) (by decide) (by decide) (by decide) ?_
          refine J_aload_n dL_law_341 rfl ?_
          refine J_callV (As := []) (rest := []) (M' := m_X6_clearText) dL_law_342 ml_R_law_47 gm_X6_clearText gv_X6_clearText hC.o hC.bo rfl rfl rfl (Nat.le_of_ble_eq_true rfl) (by decide) ⟨rfl, rfl, by decide, by decide⟩ (s_X6_clearText hC (fun h1 r1 s1 e1 F1 C1 => ?_))
          have V1 := hV.fr F1 (by omega)
          obtain ⟨fsV, hOV⟩ := V1.o
          have hBV := V1.bo
          refine J_aload_n dL_law_345 rfl ?_
          refine J_callV (As := []) (rest := [_]) (M' := m_X7_clearText) dL_law_346 ml_R_law_50 gm_X7_clearText gv_X7_clearText hOV hBV rfl rfl rfl (Nat.le_of_ble_eq_true rfl) (by decide) ⟨rfl, rfl, by decide, by decide⟩ (s_X7_clearText V1 (fun h2 r2 s2 e2 F2 V2 => ?_))
          have er : r1 = r2 := congrArg Prod.fst (e1.trans e2.symm)
          have es : s1 = s2 := congrArg Prod.snd (e1.trans e2.symm)
          subst es
          have C2 := C1.fr F2 (by omega)
          have z2 : h2.2 = 63 := by rw [F2.1, F1.1]; exact hz
          refine J_icmp_eq (tgt := 710) dL_law_349 (by decide) (fun c349 => ?_) (fun c349 => absurd er c349)
          refine J_iinc (L' := [_, _, _, _]) dL_law_710 rfl (nI_add i 5) (show 3 < 4 by decide) rfl ?_
          refine J_goto (tgt := 18) dL_law_713 (by decide) ?_
          exact ih (i + 5) h2 s1 (by omega) (by omega) z2 C2 V2
        · refine J_tsIn (off := 322) (tgt := 354) dL_law_32 (by decide) (by decide) (by decide) (by decide) ?_
          refine J_aload_n dL_law_354 rfl ?_
          refine J_callV (As := []) (rest := []) (M' := m_X6_undo) dL_law_355 ml_R_law_51 gm_X6_undo gv_X6_undo hC.o hC.bo rfl rfl rfl (Nat.le_of_ble_eq_true rfl) (by decide) ⟨rfl, rfl, by decide, by decide⟩ (s_X6_undo hC (fun h1 r1 s1 e1 F1 C1 => ?_))
          have V1 := hV.fr F1 (by omega)
          obtain ⟨fsV, hOV⟩ := V1.o
          have hBV := V1.bo
          refine J_aload_n dL_law_358 rfl ?_
          refine J_callV (As := []) (rest := [_]) (M' := m_X7_undo) dL_law_359 ml_R_law_54 gm_X7_undo gv_X7_undo hOV hBV rfl rfl rfl (Nat.le_of_ble_eq_true rfl) (by decide) ⟨rfl, rfl, by decide, by decide⟩ (s_X7_undo V1 (fun h2 r2 s2 e2 F2 V2 => ?_))
          have er : r1 = r2 := congrArg Prod.fst (e1.trans e2.symm)
          have es : s1 = s2 := congrArg Prod.snd (e1.trans e2.symm)
          subst es
          have C2 := C1.fr F2 (by omega)
          have z2 : h2.2 = 63 := by rw [F2.1, F1.1]; exact hz
          refine J_icmp_eq (tgt := 710) dL_law_362 (by decide) (fun c362 => ?_) (fun c362 => absurd er c362)
          refine J_iinc (L' := [_, _, _, _]) dL_law_710 rfl (nI_add i 5) (show 3 < 4 by decide) rfl ?_
          refine J_goto (tgt := 18) dL_law_713 (by decide) ?_
          exact ih (i + 5) h2 s1 (by omega) (by omega) z2 C2 V2
        · refine J_tsIn (off := 335) (tgt := 367) dL_law_32 (by decide) (by decide) (by decide) (by decide) ?_
          refine J_aload_n dL_law_367 rfl ?_
          refine J_callV (As := []) (rest := []) (M' := m_X6_keep) dL_law_368 ml_R_law_55 gm_X6_keep gv_X6_keep hC.o hC.bo rfl rfl rfl (Nat.le_of_ble_eq_true rfl) (by decide) ⟨rfl, rfl, by decide, by decide⟩ (s_X6_keep hC (fun h1 r1 s1 e1 F1 C1 => ?_))
          have V1 := hV.fr F1 (by omega)
          obtain ⟨fsV, hOV⟩ := V1.o
          have hBV := V1.bo
          refine J_aload_n dL_law_371 rfl ?_
          refine J_callV (As := []) (rest := [_]) (M' := m_X7_keep) dL_law_372 ml_R_law_58 gm_X7_keep gv_X7_keep hOV hBV rfl rfl rfl (Nat.le_of_ble_eq_true rfl) (by decide) ⟨rfl, rfl, by decide, by decide⟩ (s_X7_keep V1 (fun h2 r2 s2 e2 F2 V2 => ?_))
          have er : r1 = r2 := congrArg Prod.fst (e1.trans e2.symm)
          have es : s1 = s2 := congrArg Prod.snd (e1.trans e2.symm)
          subst es
          have C2 := C1.fr F2 (by omega)
          have z2 : h2.2 = 63 := by rw [F2.1, F1.1]; exact hz
          refine J_icmp_eq (tgt := 710) dL_law_375 (by decide) (fun c375 => ?_) (fun c375 => absurd er c375)
          refine J_iinc (L' := [_, _, _, _]) dL_law_710 rfl (nI_add i 5) (show 3 < 4 by decide) rfl ?_
          refine J_goto (tgt := 18) dL_law_713 (by decide) ?_
          exact ih (i + 5) h2 s1 (by omega) (by omega) z2 C2 V2
        · refine J_tsIn (off := 348) (tgt := 380) dL_law_32 (by decide) (by decide) (by decide) (by decide) ?_
          refine J_aload_n dL_law_380 rfl ?_
          refine J_callV (As := []) (rest := []) (M' := m_X6_restore) dL_law_381 ml_R_law_59 gm_X6_restore gv_X6_restore hC.o hC.bo rfl rfl rfl (Nat.le_of_ble_eq_true rfl) (by decide) ⟨rfl, rfl, by decide, by decide⟩ (s_X6_restore hC (fun h1 r1 s1 e1 F1 C1 => ?_))
          have V1 := hV.fr F1 (by omega)
          obtain ⟨fsV, hOV⟩ := V1.o
          have hBV := V1.bo
          refine J_aload_n dL_law_384 rfl ?_
          refine J_callV (As := []) (rest := [_]) (M' := m_X7_restore) dL_law_385 ml_R_law_62 gm_X7_restore gv_X7_restore hOV hBV rfl rfl rfl (Nat.le_of_ble_eq_true rfl) (by decide) ⟨rfl, rfl, by decide, by decide⟩ (s_X7_restore V1 (fun h2 r2 s2 e2 F2 V2 => ?_))
          have er : r1 = r2 := congrArg Prod.fst (e1.trans e2.symm)
          have es : s1 = s2 := congrArg Prod.snd (e1.trans e2.symm)
          subst es
          have C2 := C1.fr F2 (by omega)
          have z2 : h2.2 = 63 := by rw [F2.1, F1.1]; exact hz
          refine J_icmp_eq (tgt := 710) dL_law_388 (by decide) (fun c388 => ?_) (fun c388 => absurd er c388)
          refine J_iinc (L' := [_, _, _, _]) dL_law_710 rfl (nI_add i 5) (show 3 < 4 by decide) rfl ?_
          refine J_goto (tgt := 18) dL_law_713 (by decide) ?_
          exact ih (i + 5) h2 s1 (by omega) (by omega) z2 C2 V2
        · refine J_tsIn (off := 361) (tgt := 393) dL_law_32 (by decide) (by decide) (by decide) (by decide) ?_
          refine J_aload_n dL_law_393 rfl ?_
          refine J_aload_n dL_law_394 rfl ?_
          refine J_iload_n dL_law_395 rfl ?_
          refine J_iconst (x := 1) dL_law_396 (by decide) ?_
          refine J_iadd dL_law_397 ?_
          rw [show nI i + (1 : Int32) = nI (i + 1) from nI_add i 1]
          refine J_sld rfl dL_law_398 (vp_in_nI (by omega) (by omega)) ?_
          refine J_aload_n dL_law_399 rfl ?_
          refine J_iload_n dL_law_400 rfl ?_
          refine J_iconst (x := 2) dL_law_401 (by decide) ?_
          refine J_iadd dL_law_402 ?_
          rw [show nI i + (2 : Int32) = nI (i + 2) from nI_add i 2]
          refine J_sld rfl dL_law_403 (vp_in_nI (by omega) (by omega)) ?_
          refine J_callV (As := [_, _]) (rest := []) (M' := m_X6_link) dL_law_404 ml_R_law_63 gm_X6_link gv_X6_link hC.o hC.bo rfl rfl rfl (Nat.le_of_ble_eq_true rfl) (by decide) ⟨rfl, rfl, by decide, by decide⟩ (s_X6_link hC (fun h1 r1 e1 F1 C1 => ?_))
          have V1 := hV.fr F1 (by omega)
          obtain ⟨fsV, hOV⟩ := V1.o
          have hBV := V1.bo
          refine J_aload_n dL_law_407 rfl ?_
          refine J_aload_n dL_law_408 rfl ?_
          refine J_iload_n dL_law_409 rfl ?_
          refine J_iconst (x := 1) dL_law_410 (by decide) ?_
          refine J_iadd dL_law_411 ?_
          rw [show nI i + (1 : Int32) = nI (i + 1) from nI_add i 1]
          refine J_sld rfl dL_law_412 (vp_in_nI (by omega) (by omega)) ?_
          refine J_aload_n dL_law_413 rfl ?_
          refine J_iload_n dL_law_414 rfl ?_
          refine J_iconst (x := 2) dL_law_415 (by decide) ?_
          refine J_iadd dL_law_416 ?_
          rw [show nI i + (2 : Int32) = nI (i + 2) from nI_add i 2]
          refine J_sld rfl dL_law_417 (vp_in_nI (by omega) (by omega)) ?_
          refine J_callV (As := [_, _]) (rest := [_]) (M' := m_X7_link) dL_law_418 ml_R_law_66 gm_X7_link gv_X7_link hOV hBV rfl rfl rfl (Nat.le_of_ble_eq_true rfl) (by decide) ⟨rfl, rfl, by decide, by decide⟩ (s_X7_link V1 (fun r2 e2 => ?_))
          have er : r1 = r2 := e1.trans e2.symm
          have C2 := C1
          have V2 := V1
          have z2 : h1.2 = 63 := by rw [F1.1]; exact hz
          refine J_icmp_eq (tgt := 710) dL_law_421 (by decide) (fun c421 => ?_) (fun c421 => absurd er c421)
          refine J_iinc (L' := [_, _, _, _]) dL_law_710 rfl (nI_add i 5) (show 3 < 4 by decide) rfl ?_
          refine J_goto (tgt := 18) dL_law_713 (by decide) ?_
          exact ih (i + 5) h1 s (by omega) (by omega) z2 C2 V2
        · refine J_tsIn (off := 394) (tgt := 426) dL_law_32 (by decide) (by decide) (by decide) (by decide) ?_
          refine J_aload_n dL_law_426 rfl ?_
          refine J_aload_n dL_law_427 rfl ?_
          refine J_iload_n dL_law_428 rfl ?_
          refine J_iconst (x := 1) dL_law_429 (by decide) ?_
          refine J_iadd dL_law_430 ?_
          rw [show nI i + (1 : Int32) = nI (i + 1) from nI_add i 1]
          refine J_sld rfl dL_law_431 (vp_in_nI (by omega) (by omega)) ?_
          refine J_aload_n dL_law_432 rfl ?_
          refine J_iload_n dL_law_433 rfl ?_
          refine J_iconst (x := 2) dL_law_434 (by decide) ?_
          refine J_iadd dL_law_435 ?_
          rw [show nI i + (2 : Int32) = nI (i + 2) from nI_add i 2]
          refine J_sld rfl dL_law_436 (vp_in_nI (by omega) (by omega)) ?_
          refine J_aload_n dL_law_437 rfl ?_
          refine J_iload_n dL_law_438 rfl ?_
          refine J_iconst (x := 3) dL_law_439 (by decide) ?_
          refine J_iadd dL_law_440 ?_
          rw [show nI i + (3 : Int32) = nI (i + 3) from nI_add i 3]
          refine J_sld rfl dL_law_441 (vp_in_nI (by omega) (by omega)) ?_
          refine J_callV (As := [_, _, _]) (rest := []) (M' := m_X6_joined) dL_law_442 ml_R_law_67 gm_X6_joined gv_X6_joined hC.o hC.bo rfl rfl rfl (Nat.le_of_ble_eq_true rfl) (by decide) ⟨rfl, rfl, by decide, by decide⟩ (s_X6_joined hC (fun h1 r1 e1 F1 C1 => ?_))
          have V1 := hV.fr F1 (by omega)
          obtain ⟨fsV, hOV⟩ := V1.o
          have hBV := V1.bo
          refine J_aload_n dL_law_445 rfl ?_
          refine J_aload_n dL_law_446 rfl ?_
          refine J_iload_n dL_law_447 rfl ?_
          refine J_iconst (x := 1) dL_law_448 (by decide) ?_
          refine J_iadd dL_law_449 ?_
          rw [show nI i + (1 : Int32) = nI (i + 1) from nI_add i 1]
          refine J_sld rfl dL_law_450 (vp_in_nI (by omega) (by omega)) ?_
          refine J_aload_n dL_law_451 rfl ?_
          refine J_iload_n dL_law_452 rfl ?_
          refine J_iconst (x := 2) dL_law_453 (by decide) ?_
          refine J_iadd dL_law_454 ?_
          rw [show nI i + (2 : Int32) = nI (i + 2) from nI_add i 2]
          refine J_sld rfl dL_law_455 (vp_in_nI (by omega) (by omega)) ?_
          refine J_aload_n dL_law_456 rfl ?_
          refine J_iload_n dL_law_457 rfl ?_
          refine J_iconst (x := 3) dL_law_458 (by decide) ?_
          refine J_iadd dL_law_459 ?_
          rw [show nI i + (3 : Int32) = nI (i + 3) from nI_add i 3]
          refine J_sld rfl dL_law_460 (vp_in_nI (by omega) (by omega)) ?_
          refine J_callV (As := [_, _, _]) (rest := [_]) (M' := m_X7_joined) dL_law_461 ml_R_law_70 gm_X7_joined gv_X7_joined hOV hBV rfl rfl rfl (Nat.le_of_ble_eq_true rfl) (by decide) ⟨rfl, rfl, by decide, by decide⟩ (s_X7_joined V1 (fun r2 e2 => ?_))
          have er : r1 = r2 := e1.trans e2.symm
          have C2 := C1
          have V2 := V1
          have z2 : h1.2 = 63 := by rw [F1.1]; exact hz
          refine J_icmp_eq (tgt := 710) dL_law_464 (by decide) (fun c464 => ?_) (fun c464 => absurd er c464)
          refine J_iinc (L' := [_, _, _, _]) dL_law_710 rfl (nI_add i 5) (show 3 < 4 by decide) rfl ?_
          refine J_goto (tgt := 18) dL_law_713 (by decide) ?_
          exact ih (i + 5) h1 s (by omega) (by omega) z2 C2 V2
        · refine J_tsIn (off := 437) (tgt := 469) dL_law_32 (by decide) (by decide) (by decide) (by decide) ?_
          refine J_aload_n dL_law_469 rfl ?_
          refine J_aload_n dL_law_470 rfl ?_
          refine J_iload_n dL_law_471 rfl ?_
          refine J_iconst (x := 1) dL_law_472 (by decide) ?_
          refine J_iadd dL_law_473 ?_
          rw [show nI i + (1 : Int32) = nI (i + 1) from nI_add i 1]
          refine J_sld rfl dL_law_474 (vp_in_nI (by omega) (by omega)) ?_
          refine J_aload_n dL_law_475 rfl ?_
          refine J_iload_n dL_law_476 rfl ?_
          refine J_iconst (x := 2) dL_law_477 (by decide) ?_
          refine J_iadd dL_law_478 ?_
          rw [show nI i + (2 : Int32) = nI (i + 2) from nI_add i 2]
          refine J_sld rfl dL_law_479 (vp_in_nI (by omega) (by omega)) ?_
          refine J_callV (As := [_, _]) (rest := []) (M' := m_X6_moment) dL_law_480 ml_R_law_71 gm_X6_moment gv_X6_moment hC.o hC.bo rfl rfl rfl (Nat.le_of_ble_eq_true rfl) (by decide) ⟨rfl, rfl, by decide, by decide⟩ (s_X6_moment hC (fun h1 r1 e1 F1 C1 => ?_))
          have V1 := hV.fr F1 (by omega)
          obtain ⟨fsV, hOV⟩ := V1.o
          have hBV := V1.bo
          refine J_aload_n dL_law_483 rfl ?_
          refine J_aload_n dL_law_484 rfl ?_
          refine J_iload_n dL_law_485 rfl ?_
          refine J_iconst (x := 1) dL_law_486 (by decide) ?_
          refine J_iadd dL_law_487 ?_
          rw [show nI i + (1 : Int32) = nI (i + 1) from nI_add i 1]
          refine J_sld rfl dL_law_488 (vp_in_nI (by omega) (by omega)) ?_
          refine J_aload_n dL_law_489 rfl ?_
          refine J_iload_n dL_law_490 rfl ?_
          refine J_iconst (x := 2) dL_law_491 (by decide) ?_
          refine J_iadd dL_law_492 ?_
          rw [show nI i + (2 : Int32) = nI (i + 2) from nI_add i 2]
          refine J_sld rfl dL_law_493 (vp_in_nI (by omega) (by omega)) ?_
          refine J_callV (As := [_, _]) (rest := [_]) (M' := m_X7_moment) dL_law_494 ml_R_law_74 gm_X7_moment gv_X7_moment hOV hBV rfl rfl rfl (Nat.le_of_ble_eq_true rfl) (by decide) ⟨rfl, rfl, by decide, by decide⟩ (s_X7_moment V1 (fun r2 e2 => ?_))
          have er : r1 = r2 := e1.trans e2.symm
          have C2 := C1
          have V2 := V1
          have z2 : h1.2 = 63 := by rw [F1.1]; exact hz
          refine J_icmp_eq (tgt := 710) dL_law_497 (by decide) (fun c497 => ?_) (fun c497 => absurd er c497)
          refine J_iinc (L' := [_, _, _, _]) dL_law_710 rfl (nI_add i 5) (show 3 < 4 by decide) rfl ?_
          refine J_goto (tgt := 18) dL_law_713 (by decide) ?_
          exact ih (i + 5) h1 s (by omega) (by omega) z2 C2 V2
        · refine J_tsIn (off := 470) (tgt := 502) dL_law_32 (by decide) (by decide) (by decide) (by decide) ?_
          refine J_aload_n dL_law_502 rfl ?_
          refine J_aload_n dL_law_503 rfl ?_
          refine J_iload_n dL_law_504 rfl ?_
          refine J_iconst (x := 1) dL_law_505 (by decide) ?_
          refine J_iadd dL_law_506 ?_
          rw [show nI i + (1 : Int32) = nI (i + 1) from nI_add i 1]
          refine J_sld rfl dL_law_507 (vp_in_nI (by omega) (by omega)) ?_
          refine J_aload_n dL_law_508 rfl ?_
          refine J_iload_n dL_law_509 rfl ?_
          refine J_iconst (x := 2) dL_law_510 (by decide) ?_
          refine J_iadd dL_law_511 ?_
          rw [show nI i + (2 : Int32) = nI (i + 2) from nI_add i 2]
          refine J_sld rfl dL_law_512 (vp_in_nI (by omega) (by omega)) ?_
          refine J_aload_n dL_law_513 rfl ?_
          refine J_iload_n dL_law_514 rfl ?_
          refine J_iconst (x := 3) dL_law_515 (by decide) ?_
          refine J_iadd dL_law_516 ?_
          rw [show nI i + (3 : Int32) = nI (i + 3) from nI_add i 3]
          refine J_sld rfl dL_law_517 (vp_in_nI (by omega) (by omega)) ?_
          refine J_callV (As := [_, _, _]) (rest := []) (M' := m_X6_part) dL_law_518 ml_R_law_75 gm_X6_part gv_X6_part hC.o hC.bo rfl rfl rfl (Nat.le_of_ble_eq_true rfl) (by decide) ⟨rfl, rfl, by decide, by decide⟩ (s_X6_part hC (fun h1 r1 e1 F1 C1 => ?_))
          have V1 := hV.fr F1 (by omega)
          obtain ⟨fsV, hOV⟩ := V1.o
          have hBV := V1.bo
          refine J_aload_n dL_law_521 rfl ?_
          refine J_aload_n dL_law_522 rfl ?_
          refine J_iload_n dL_law_523 rfl ?_
          refine J_iconst (x := 1) dL_law_524 (by decide) ?_
          refine J_iadd dL_law_525 ?_
          rw [show nI i + (1 : Int32) = nI (i + 1) from nI_add i 1]
          refine J_sld rfl dL_law_526 (vp_in_nI (by omega) (by omega)) ?_
          refine J_aload_n dL_law_527 rfl ?_
          refine J_iload_n dL_law_528 rfl ?_
          refine J_iconst (x := 2) dL_law_529 (by decide) ?_
          refine J_iadd dL_law_530 ?_
          rw [show nI i + (2 : Int32) = nI (i + 2) from nI_add i 2]
          refine J_sld rfl dL_law_531 (vp_in_nI (by omega) (by omega)) ?_
          refine J_aload_n dL_law_532 rfl ?_
          refine J_iload_n dL_law_533 rfl ?_
          refine J_iconst (x := 3) dL_law_534 (by decide) ?_
          refine J_iadd dL_law_535 ?_
          rw [show nI i + (3 : Int32) = nI (i + 3) from nI_add i 3]
          refine J_sld rfl dL_law_536 (vp_in_nI (by omega) (by omega)) ?_
          refine J_callV (As := [_, _, _]) (rest := [_]) (M' := m_X7_part) dL_law_537 ml_R_law_78 gm_X7_part gv_X7_part hOV hBV rfl rfl rfl (Nat.le_of_ble_eq_true rfl) (by decide) ⟨rfl, rfl, by decide, by decide⟩ (s_X7_part V1 (fun r2 e2 => ?_))
          have er : r1 = r2 := e1.trans e2.symm
          have C2 := C1
          have V2 := V1
          have z2 : h1.2 = 63 := by rw [F1.1]; exact hz
          refine J_icmp_eq (tgt := 710) dL_law_540 (by decide) (fun c540 => ?_) (fun c540 => absurd er c540)
          refine J_iinc (L' := [_, _, _, _]) dL_law_710 rfl (nI_add i 5) (show 3 < 4 by decide) rfl ?_
          refine J_goto (tgt := 18) dL_law_713 (by decide) ?_
          exact ih (i + 5) h1 s (by omega) (by omega) z2 C2 V2
        · refine J_tsIn (off := 513) (tgt := 545) dL_law_32 (by decide) (by decide) (by decide) (by decide) ?_
          refine J_aload_n dL_law_545 rfl ?_
          refine J_aload_n dL_law_546 rfl ?_
          refine J_iload_n dL_law_547 rfl ?_
          refine J_iconst (x := 1) dL_law_548 (by decide) ?_
          refine J_iadd dL_law_549 ?_
          rw [show nI i + (1 : Int32) = nI (i + 1) from nI_add i 1]
          refine J_sld rfl dL_law_550 (vp_in_nI (by omega) (by omega)) ?_
          refine J_aload_n dL_law_551 rfl ?_
          refine J_iload_n dL_law_552 rfl ?_
          refine J_iconst (x := 2) dL_law_553 (by decide) ?_
          refine J_iadd dL_law_554 ?_
          rw [show nI i + (2 : Int32) = nI (i + 2) from nI_add i 2]
          refine J_sld rfl dL_law_555 (vp_in_nI (by omega) (by omega)) ?_
          refine J_callV (As := [_, _]) (rest := []) (M' := m_X6_needed) dL_law_556 ml_R_law_79 gm_X6_needed gv_X6_needed hC.o hC.bo rfl rfl rfl (Nat.le_of_ble_eq_true rfl) (by decide) ⟨rfl, rfl, by decide, by decide⟩ (s_X6_needed hC (fun h1 r1 e1 F1 C1 => ?_))
          have V1 := hV.fr F1 (by omega)
          obtain ⟨fsV, hOV⟩ := V1.o
          have hBV := V1.bo
          refine J_aload_n dL_law_559 rfl ?_
          refine J_aload_n dL_law_560 rfl ?_
          refine J_iload_n dL_law_561 rfl ?_
          refine J_iconst (x := 1) dL_law_562 (by decide) ?_
          refine J_iadd dL_law_563 ?_
          rw [show nI i + (1 : Int32) = nI (i + 1) from nI_add i 1]
          refine J_sld rfl dL_law_564 (vp_in_nI (by omega) (by omega)) ?_
          refine J_aload_n dL_law_565 rfl ?_
          refine J_iload_n dL_law_566 rfl ?_
          refine J_iconst (x := 2) dL_law_567 (by decide) ?_
          refine J_iadd dL_law_568 ?_
          rw [show nI i + (2 : Int32) = nI (i + 2) from nI_add i 2]
          refine J_sld rfl dL_law_569 (vp_in_nI (by omega) (by omega)) ?_
          refine J_callV (As := [_, _]) (rest := [_]) (M' := m_X7_needed) dL_law_570 ml_R_law_82 gm_X7_needed gv_X7_needed hOV hBV rfl rfl rfl (Nat.le_of_ble_eq_true rfl) (by decide) ⟨rfl, rfl, by decide, by decide⟩ (s_X7_needed V1 (fun r2 e2 => ?_))
          have er : r1 = r2 := e1.trans e2.symm
          have C2 := C1
          have V2 := V1
          have z2 : h1.2 = 63 := by rw [F1.1]; exact hz
          refine J_icmp_eq (tgt := 710) dL_law_573 (by decide) (fun c573 => ?_) (fun c573 => absurd er c573)
          refine J_iinc (L' := [_, _, _, _]) dL_law_710 rfl (nI_add i 5) (show 3 < 4 by decide) rfl ?_
          refine J_goto (tgt := 18) dL_law_713 (by decide) ?_
          exact ih (i + 5) h1 s (by omega) (by omega) z2 C2 V2
        · refine J_tsIn (off := 546) (tgt := 578) dL_law_32 (by decide) (by decide) (by decide) (by decide) ?_
          refine J_aload_n dL_law_578 rfl ?_
          refine J_aload_n dL_law_579 rfl ?_
          refine J_iload_n dL_law_580 rfl ?_
          refine J_iconst (x := 1) dL_law_581 (by decide) ?_
          refine J_iadd dL_law_582 ?_
          rw [show nI i + (1 : Int32) = nI (i + 1) from nI_add i 1]
          refine J_sld rfl dL_law_583 (vp_in_nI (by omega) (by omega)) ?_
          refine J_aload_n dL_law_584 rfl ?_
          refine J_iload_n dL_law_585 rfl ?_
          refine J_iconst (x := 2) dL_law_586 (by decide) ?_
          refine J_iadd dL_law_587 ?_
          rw [show nI i + (2 : Int32) = nI (i + 2) from nI_add i 2]
          refine J_sld rfl dL_law_588 (vp_in_nI (by omega) (by omega)) ?_
          refine J_aload_n dL_law_589 rfl ?_
          refine J_iload_n dL_law_590 rfl ?_
          refine J_iconst (x := 3) dL_law_591 (by decide) ?_
          refine J_iadd dL_law_592 ?_
          rw [show nI i + (3 : Int32) = nI (i + 3) from nI_add i 3]
          refine J_sld rfl dL_law_593 (vp_in_nI (by omega) (by omega)) ?_
          refine J_callV (As := [_, _, _]) (rest := []) (M' := m_X6_together) dL_law_594 ml_R_law_83 gm_X6_together gv_X6_together hC.o hC.bo rfl rfl rfl (Nat.le_of_ble_eq_true rfl) (by decide) ⟨rfl, rfl, by decide, by decide⟩ (s_X6_together hC (fun h1 r1 e1 F1 C1 => ?_))
          have V1 := hV.fr F1 (by omega)
          obtain ⟨fsV, hOV⟩ := V1.o
          have hBV := V1.bo
          refine J_aload_n dL_law_597 rfl ?_
          refine J_aload_n dL_law_598 rfl ?_
          refine J_iload_n dL_law_599 rfl ?_
          refine J_iconst (x := 1) dL_law_600 (by decide) ?_
          refine J_iadd dL_law_601 ?_
          rw [show nI i + (1 : Int32) = nI (i + 1) from nI_add i 1]
          refine J_sld rfl dL_law_602 (vp_in_nI (by omega) (by omega)) ?_
          refine J_aload_n dL_law_603 rfl ?_
          refine J_iload_n dL_law_604 rfl ?_
          refine J_iconst (x := 2) dL_law_605 (by decide) ?_
          refine J_iadd dL_law_606 ?_
          rw [show nI i + (2 : Int32) = nI (i + 2) from nI_add i 2]
          refine J_sld rfl dL_law_607 (vp_in_nI (by omega) (by omega)) ?_
          refine J_aload_n dL_law_608 rfl ?_
          refine J_iload_n dL_law_609 rfl ?_
          refine J_iconst (x := 3) dL_law_610 (by decide) ?_
          refine J_iadd dL_law_611 ?_
          rw [show nI i + (3 : Int32) = nI (i + 3) from nI_add i 3]
          refine J_sld rfl dL_law_612 (vp_in_nI (by omega) (by omega)) ?_
          refine J_callV (As := [_, _, _]) (rest := [_]) (M' := m_X7_together) dL_law_613 ml_R_law_86 gm_X7_together gv_X7_together hOV hBV rfl rfl rfl (Nat.le_of_ble_eq_true rfl) (by decide) ⟨rfl, rfl, by decide, by decide⟩ (s_X7_together V1 (fun r2 e2 => ?_))
          have er : r1 = r2 := e1.trans e2.symm
          have C2 := C1
          have V2 := V1
          have z2 : h1.2 = 63 := by rw [F1.1]; exact hz
          refine J_icmp_eq (tgt := 710) dL_law_616 (by decide) (fun c616 => ?_) (fun c616 => absurd er c616)
          refine J_iinc (L' := [_, _, _, _]) dL_law_710 rfl (nI_add i 5) (show 3 < 4 by decide) rfl ?_
          refine J_goto (tgt := 18) dL_law_713 (by decide) ?_
          exact ih (i + 5) h1 s (by omega) (by omega) z2 C2 V2
        · refine J_tsIn (off := 589) (tgt := 621) dL_law_32 (by decide) (by decide) (by decide) (by decide) ?_
          refine J_aload_n dL_law_621 rfl ?_
          refine J_aload_n dL_law_622 rfl ?_
          refine J_iload_n dL_law_623 rfl ?_
          refine J_iconst (x := 1) dL_law_624 (by decide) ?_
          refine J_iadd dL_law_625 ?_
          rw [show nI i + (1 : Int32) = nI (i + 1) from nI_add i 1]
          refine J_sld rfl dL_law_626 (vp_in_nI (by omega) (by omega)) ?_
          refine J_callV (As := [_]) (rest := []) (M' := m_X6_odd) dL_law_627 ml_R_law_87 gm_X6_odd gv_X6_odd hC.o hC.bo rfl rfl rfl (Nat.le_of_ble_eq_true rfl) (by decide) ⟨rfl, rfl, by decide, by decide⟩ (s_X6_odd hC (fun h1 r1 e1 F1 C1 => ?_))
          have V1 := hV.fr F1 (by omega)
          obtain ⟨fsV, hOV⟩ := V1.o
          have hBV := V1.bo
          refine J_aload_n dL_law_630 rfl ?_
          refine J_aload_n dL_law_631 rfl ?_
          refine J_iload_n dL_law_632 rfl ?_
          refine J_iconst (x := 1) dL_law_633 (by decide) ?_
          refine J_iadd dL_law_634 ?_
          rw [show nI i + (1 : Int32) = nI (i + 1) from nI_add i 1]
          refine J_sld rfl dL_law_635 (vp_in_nI (by omega) (by omega)) ?_
          refine J_callV (As := [_]) (rest := [_]) (M' := m_X7_odd) dL_law_636 ml_R_law_90 gm_X7_odd gv_X7_odd hOV hBV rfl rfl rfl (Nat.le_of_ble_eq_true rfl) (by decide) ⟨rfl, rfl, by decide, by decide⟩ (s_X7_odd V1 (fun r2 e2 => ?_))
          have er : r1 = r2 := e1.trans e2.symm
          have C2 := C1
          have V2 := V1
          have z2 : h1.2 = 63 := by rw [F1.1]; exact hz
          refine J_icmp_eq (tgt := 710) dL_law_639 (by decide) (fun c639 => ?_) (fun c639 => absurd er c639)
          refine J_iinc (L' := [_, _, _, _]) dL_law_710 rfl (nI_add i 5) (show 3 < 4 by decide) rfl ?_
          refine J_goto (tgt := 18) dL_law_713 (by decide) ?_
          exact ih (i + 5) h1 s (by omega) (by omega) z2 C2 V2
        · refine J_tsIn (off := 612) (tgt := 644) dL_law_32 (by decide) (by decide) (by decide) (by decide) ?_
          refine J_aload_n dL_law_644 rfl ?_
          refine J_aload_n dL_law_645 rfl ?_
          refine J_iload_n dL_law_646 rfl ?_
          refine J_iconst (x := 1) dL_law_647 (by decide) ?_
          refine J_iadd dL_law_648 ?_
          rw [show nI i + (1 : Int32) = nI (i + 1) from nI_add i 1]
          refine J_sld rfl dL_law_649 (vp_in_nI (by omega) (by omega)) ?_
          refine J_aload_n dL_law_650 rfl ?_
          refine J_iload_n dL_law_651 rfl ?_
          refine J_iconst (x := 2) dL_law_652 (by decide) ?_
          refine J_iadd dL_law_653 ?_
          rw [show nI i + (2 : Int32) = nI (i + 2) from nI_add i 2]
          refine J_sld rfl dL_law_654 (vp_in_nI (by omega) (by omega)) ?_
          refine J_aload_n dL_law_655 rfl ?_
          refine J_iload_n dL_law_656 rfl ?_
          refine J_iconst (x := 3) dL_law_657 (by decide) ?_
          refine J_iadd dL_law_658 ?_
          rw [show nI i + (3 : Int32) = nI (i + 3) from nI_add i 3]
          refine J_sld rfl dL_law_659 (vp_in_nI (by omega) (by omega)) ?_
          refine J_callV (As := [_, _, _]) (rest := []) (M' := m_X6_span) dL_law_660 ml_R_law_91 gm_X6_span gv_X6_span hC.o hC.bo rfl rfl rfl (Nat.le_of_ble_eq_true rfl) (by decide) ⟨rfl, rfl, by decide, by decide⟩ (s_X6_span hC (fun h1 r1 e1 F1 C1 => ?_))
          have V1 := hV.fr F1 (by omega)
          obtain ⟨fsV, hOV⟩ := V1.o
          have hBV := V1.bo
          refine J_aload_n dL_law_663 rfl ?_
          refine J_aload_n dL_law_664 rfl ?_
          refine J_iload_n dL_law_665 rfl ?_
          refine J_iconst (x := 1) dL_law_666 (by decide) ?_
          refine J_iadd dL_law_667 ?_
          rw [show nI i + (1 : Int32) = nI (i + 1) from nI_add i 1]
          refine J_sld rfl dL_law_668 (vp_in_nI (by omega) (by omega)) ?_
          refine J_aload_n dL_law_669 rfl ?_
          refine J_iload_n dL_law_670 rfl ?_
          refine J_iconst (x := 2) dL_law_671 (by decide) ?_
          refine J_iadd dL_law_672 ?_
          rw [show nI i + (2 : Int32) = nI (i + 2) from nI_add i 2]
          refine J_sld rfl dL_law_673 (vp_in_nI (by omega) (by omega)) ?_
          refine J_aload_n dL_law_674 rfl ?_
          refine J_iload_n dL_law_675 rfl ?_
          refine J_iconst (x := 3) dL_law_676 (by decide) ?_
          refine J_iadd dL_law_677 ?_
          rw [show nI i + (3 : Int32) = nI (i + 3) from nI_add i 3]
          refine J_sld rfl dL_law_678 (vp_in_nI (by omega) (by omega)) ?_
          refine J_callV (As := [_, _, _]) (rest := [_]) (M' := m_X7_span) dL_law_679 ml_R_law_94 gm_X7_span gv_X7_span hOV hBV rfl rfl rfl (Nat.le_of_ble_eq_true rfl) (by decide) ⟨rfl, rfl, by decide, by decide⟩ (s_X7_span V1 (fun r2 e2 => ?_))
          have er : r1 = r2 := e1.trans e2.symm
          have C2 := C1
          have V2 := V1
          have z2 : h1.2 = 63 := by rw [F1.1]; exact hz
          refine J_icmp_eq (tgt := 710) dL_law_682 (by decide) (fun c682 => ?_) (fun c682 => absurd er c682)
          refine J_iinc (L' := [_, _, _, _]) dL_law_710 rfl (nI_add i 5) (show 3 < 4 by decide) rfl ?_
          refine J_goto (tgt := 18) dL_law_713 (by decide) ?_
          exact ih (i + 5) h1 s (by omega) (by omega) z2 C2 V2
        · refine J_tsIn (off := 655) (tgt := 687) dL_law_32 (by decide) (by decide) (by decide) (by decide) ?_
          refine J_aload_n dL_law_687 rfl ?_
          refine J_aload_n dL_law_688 rfl ?_
          refine J_iload_n dL_law_689 rfl ?_
          refine J_iconst (x := 1) dL_law_690 (by decide) ?_
          refine J_iadd dL_law_691 ?_
          rw [show nI i + (1 : Int32) = nI (i + 1) from nI_add i 1]
          refine J_sld rfl dL_law_692 (vp_in_nI (by omega) (by omega)) ?_
          refine J_callV (As := [_]) (rest := []) (M' := m_X6_count) dL_law_693 ml_R_law_95 gm_X6_count gv_X6_count hC.o hC.bo rfl rfl rfl (Nat.le_of_ble_eq_true rfl) (by decide) ⟨rfl, rfl, by decide, by decide⟩ (s_X6_count hC (fun h1 r1 e1 F1 C1 => ?_))
          have V1 := hV.fr F1 (by omega)
          obtain ⟨fsV, hOV⟩ := V1.o
          have hBV := V1.bo
          refine J_aload_n dL_law_696 rfl ?_
          refine J_aload_n dL_law_697 rfl ?_
          refine J_iload_n dL_law_698 rfl ?_
          refine J_iconst (x := 1) dL_law_699 (by decide) ?_
          refine J_iadd dL_law_700 ?_
          rw [show nI i + (1 : Int32) = nI (i + 1) from nI_add i 1]
          refine J_sld rfl dL_law_701 (vp_in_nI (by omega) (by omega)) ?_
          refine J_callV (As := [_]) (rest := [_]) (M' := m_X7_count) dL_law_702 ml_R_law_98 gm_X7_count gv_X7_count hOV hBV rfl rfl rfl (Nat.le_of_ble_eq_true rfl) (by decide) ⟨rfl, rfl, by decide, by decide⟩ (s_X7_count V1 (fun r2 e2 => ?_))
          have er : r1 = r2 := e1.trans e2.symm
          have C2 := C1
          have V2 := V1
          have z2 : h1.2 = 63 := by rw [F1.1]; exact hz
          refine J_icmp_eq (tgt := 710) dL_law_705 (by decide) (fun c705 => ?_) (fun c705 => absurd er c705)
          refine J_iinc (L' := [_, _, _, _]) dL_law_710 rfl (nI_add i 5) (show 3 < 4 by decide) rfl ?_
          refine J_goto (tgt := 18) dL_law_713 (by decide) ?_
          exact ih (i + 5) h1 s (by omega) (by omega) z2 C2 V2
