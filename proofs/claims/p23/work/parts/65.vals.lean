/-! what the calls answer, in numbers; what they answer of the mirror -/
section Vals
variable {s : St} {t : Nat}
theorem v_c0 : f_count 0 s = nI s.1.length := by unfold f_count; exact (sel_e (j := 0) (by rfl) (by rfl)).symm
theorem v_c1 : f_count 1 s = nI (sp2 (mdN s.1)) := by unfold f_count; exact (sel_e (j := 1) (by rfl) (by rfl)).symm
theorem v_c2 : f_count 2 s = nI (sp2 (lcN s.1)) - nI (sp2 (mdN s.1)) := by unfold f_count; exact (sel_e (j := 2) (by rfl) (by rfl)).symm
theorem v_c3 : f_count 3 s = nI (mx2 (stN s.1) 64) := by unfold f_count; exact (sel_e (j := 3) (by rfl) (by rfl)).symm
theorem v_c4 : f_count 4 s = nI (sumN (omN s.1) 64) := by unfold f_count; exact (sel_e (j := 4) (by rfl) (by rfl)).symm
theorem v_c5 : f_count 5 s = nI (maxN (pts s.1) 64) := by unfold f_count; exact (sel_e (j := 5) (by rfl) (by rfl)).symm
theorem v_c6 : f_count 6 s = nI (minN (pts s.1) 64) := by unfold f_count; exact (sel_e (j := 6) (by rfl) (by rfl)).symm
theorem v_c7 : f_count 7 s = nI s.2.1.length := by unfold f_count; exact (sel_e (j := 7) (by rfl) (by rfl)).symm
theorem f_mom {m : Nat} (hm : m < 64) (v : Int32) : f_moment (nI m) v s = sel v [nI (s.1.countP (lvB (m : Int))), nI (pts s.1 m), bI (OM s.1 m), nI (maxN (pSz s.1 m) 16), nI (sumN (nlN s.1 m) s.1.length), nI (sumN (alN s.1 m) 16)] := by unfold f_moment; rw [ci_f (fun q => q (IX_n hm)), tN_n (by omega)]
theorem v_m0 {m : Nat} (hm : m < 64) : f_moment (nI m) 0 s = nI (s.1.countP (lvB (m : Int))) := by rw [f_mom hm]; exact (sel_e (j := 0) (by rfl) (by rfl)).symm
theorem v_m1 {m : Nat} (hm : m < 64) : f_moment (nI m) 1 s = nI (pts s.1 m) := by rw [f_mom hm]; exact (sel_e (j := 1) (by rfl) (by rfl)).symm
theorem v_m2 {m : Nat} (hm : m < 64) : f_moment (nI m) 2 s = bI (OM s.1 m) := by rw [f_mom hm]; exact (sel_e (j := 2) (by rfl) (by rfl)).symm
theorem v_m3 {m : Nat} (hm : m < 64) : f_moment (nI m) 3 s = nI (maxN (pSz s.1 m) 16) := by rw [f_mom hm]; exact (sel_e (j := 3) (by rfl) (by rfl)).symm
theorem v_m4 {m : Nat} (hm : m < 64) : f_moment (nI m) 4 s = nI (sumN (nlN s.1 m) s.1.length) := by rw [f_mom hm]; exact (sel_e (j := 4) (by rfl) (by rfl)).symm
theorem v_m5 {m : Nat} (hm : m < 64) : f_moment (nI m) 5 s = nI (sumN (alN s.1 m) 16) := by rw [f_mom hm]; exact (sel_e (j := 5) (by rfl) (by rfl)).symm
theorem f_spn {m d : Nat} (hm : m < 64) (hd : d < 7) (v : Int32) : f_span (nI m) (nI d) v s = sel v [nI (sb m d), nI (sl d), nI (lcN s.1 m d), nI (mdN s.1 m d), nI (lcN s.1 m d) - nI (mdN s.1 m d)] := by unfold f_span; rw [ci_f (fun q => q (IX_n hm)), ci_f (fun q => q (IX_n hd)), tN_n (by omega), tN_n (by omega)]
theorem v_s0 {m d : Nat} (hm : m < 64) (hd : d < 7) : f_span (nI m) (nI d) 0 s = nI (sb m d) := by rw [f_spn hm hd]; exact (sel_e (j := 0) (by rfl) (by rfl)).symm
theorem v_s1 {m d : Nat} (hm : m < 64) (hd : d < 7) : f_span (nI m) (nI d) 1 s = nI (sl d) := by rw [f_spn hm hd]; exact (sel_e (j := 1) (by rfl) (by rfl)).symm
theorem v_s2 {m d : Nat} (hm : m < 64) (hd : d < 7) : f_span (nI m) (nI d) 2 s = nI (lcN s.1 m d) := by rw [f_spn hm hd]; exact (sel_e (j := 2) (by rfl) (by rfl)).symm
theorem v_s3 {m d : Nat} (hm : m < 64) (hd : d < 7) : f_span (nI m) (nI d) 3 s = nI (mdN s.1 m d) := by rw [f_spn hm hd]; exact (sel_e (j := 3) (by rfl) (by rfl)).symm
theorem v_s4 {m d : Nat} (hm : m < 64) (hd : d < 7) : f_span (nI m) (nI d) 4 s = nI (lcN s.1 m d) - nI (mdN s.1 m d) := by rw [f_spn hm hd]; exact (sel_e (j := 4) (by rfl) (by rfl)).symm
theorem v_p0 {m p : Nat} (hm : m < 64) (hp : p < 16) : f_part (nI m) (nI p) 0 s = nI (lwN s.1 m p) := by unfold f_part; rw [ci_f (fun q => q ⟨IX_n hm, IX_n hp⟩), tN_n (by omega), tN_n (by omega)]; exact (sel_e (j := 0) (by rfl) (by rfl)).symm
theorem v_p1 {m p : Nat} (hm : m < 64) (hp : p < 16) : f_part (nI m) (nI p) 1 s = nI (pSz s.1 m p) := by unfold f_part; rw [ci_f (fun q => q ⟨IX_n hm, IX_n hp⟩), tN_n (by omega), tN_n (by omega)]; exact (sel_e (j := 1) (by rfl) (by rfl)).symm
theorem v_p2 {m p : Nat} (hm : m < 64) (hp : p < 16) : f_part (nI m) (nI p) 2 s = btN s.1 m p := by unfold f_part; rw [ci_f (fun q => q ⟨IX_n hm, IX_n hp⟩), tN_n (by omega), tN_n (by omega)]; exact (sel_e (j := 2) (by rfl) (by rfl)).symm
theorem v_t0 {x y : Nat} (hx : x < 16) (hy : y < 16) : f_tog (nI x) (nI y) 0 s = nI (tgN (fun m => CM s.1 m x y) 64).1 := by unfold f_tog; rw [ci_f (fun q => q ⟨IX_n hx, IX_n hy⟩), tN_n (by omega), tN_n (by omega)]; unfold tgL; exact (sel_e (j := 0) (by rfl) (by rfl)).symm
theorem v_t1 {x y : Nat} (hx : x < 16) (hy : y < 16) : f_tog (nI x) (nI y) 1 s = (tgN (fun m => CM s.1 m x y) 64).2.1 := by unfold f_tog; rw [ci_f (fun q => q ⟨IX_n hx, IX_n hy⟩), tN_n (by omega), tN_n (by omega)]; unfold tgL; exact (sel_e (j := 1) (by rfl) (by rfl)).symm
theorem v_t2 {x y : Nat} (hx : x < 16) (hy : y < 16) : f_tog (nI x) (nI y) 2 s = (tgN (fun m => CM s.1 m x y) 64).2.2.1 := by unfold f_tog; rw [ci_f (fun q => q ⟨IX_n hx, IX_n hy⟩), tN_n (by omega), tN_n (by omega)]; unfold tgL; exact (sel_e (j := 2) (by rfl) (by rfl)).symm
theorem v_t3 {x y : Nat} (hx : x < 16) (hy : y < 16) : f_tog (nI x) (nI y) 3 s = nI (tgN (fun m => CM s.1 m x y) 64).2.2.2.2.1 := by unfold f_tog; rw [ci_f (fun q => q ⟨IX_n hx, IX_n hy⟩), tN_n (by omega), tN_n (by omega)]; unfold tgL; exact (sel_e (j := 3) (by rfl) (by rfl)).symm
theorem v_t4 {x y : Nat} (hx : x < 16) (hy : y < 16) : f_tog (nI x) (nI y) 4 s = (tgN (fun m => CM s.1 m x y) 64).2.2.2.2.2 := by unfold f_tog; rw [ci_f (fun q => q ⟨IX_n hx, IX_n hy⟩), tN_n (by omega), tN_n (by omega)]; unfold tgL; exact (sel_e (j := 4) (by rfl) (by rfl)).symm
theorem v_l0 {k : Nat} {y : Lk} (hy : s.1[k]? = some y) (h4 : s.1.length ≤ 40) : f_link (nI k) 0 s = nI y.1 := by have hk := get_lt hy; unfold f_link; rw [ci_f (fun q => q (IX_n hk)), tN_n (by omega), hy]; exact (sel_e (j := 0) (by rfl) (by rfl)).symm
theorem v_l1 {k : Nat} {y : Lk} (hy : s.1[k]? = some y) (h4 : s.1.length ≤ 40) : f_link (nI k) 1 s = nI y.2.1 := by have hk := get_lt hy; unfold f_link; rw [ci_f (fun q => q (IX_n hk)), tN_n (by omega), hy]; exact (sel_e (j := 1) (by rfl) (by rfl)).symm
theorem v_l2 {k : Nat} {y : Lk} (hy : s.1[k]? = some y) (h4 : s.1.length ≤ 40) : f_link (nI k) 2 s = nI y.2.2.1 := by have hk := get_lt hy; unfold f_link; rw [ci_f (fun q => q (IX_n hk)), tN_n (by omega), hy]; exact (sel_e (j := 2) (by rfl) (by rfl)).symm
theorem v_l3 {k : Nat} {y : Lk} (hy : s.1[k]? = some y) (h4 : s.1.length ≤ 40) : f_link (nI k) 3 s = nI y.2.2.2 := by have hk := get_lt hy; unfold f_link; rw [ci_f (fun q => q (IX_n hk)), tN_n (by omega), hy]; exact (sel_e (j := 3) (by rfl) (by rfl)).symm
theorem v_l4 {k : Nat} {y : Lk} (hy : s.1[k]? = some y) (h4 : s.1.length ≤ 40) : f_link (nI k) 4 s = nI (spN y) := by have hk := get_lt hy; unfold f_link; rw [ci_f (fun q => q (IX_n hk)), tN_n (by omega), hy]; exact (sel_e (j := 4) (by rfl) (by rfl)).symm
theorem v_l5 {k : Nat} {y : Lk} (hy : s.1[k]? = some y) (h4 : s.1.length ≤ 40) : f_link (nI k) 5 s = nI (sumN (nmN s.1 k y) 64) := by have hk := get_lt hy; unfold f_link; rw [ci_f (fun q => q (IX_n hk)), tN_n (by omega), hy]; exact (sel_e (j := 5) (by rfl) (by rfl)).symm
theorem v_n {k m : Nat} {y : Lk} (hm : m < 64) (hy : s.1[k]? = some y) (h4 : s.1.length ≤ 40) : f_needed (nI k) (nI m) s = ci (¬ lvB (m : Int) y = true) (-5) (bI (NM s.1 k m y)) := by
  have hk := get_lt hy
  unfold f_needed
  rw [ci_f (fun q => q ⟨IX_n hk, IX_n hm⟩), tN_n (by omega), tN_n (by omega), hy]
theorem v_j {m x y : Nat} (hm : m < 64) (hx : x < 16) (hy : y < 16) : f_joined (nI m) (nI x) (nI y) s = bI (CM s.1 m x y) := by
  unfold f_joined
  rw [ci_f (fun q => q ⟨IX_n hm, IX_n hx, IX_n hy⟩), tN_n (by omega), tN_n (by omega), tN_n (by omega)]
theorem v_o {m : Nat} (hm : m < 64) : f_odd (nI m) s = fsO (OM s.1) (64 - m) m := by
  unfold f_odd
  rw [ci_f (fun q => q (IX_n hm)), tN_n (by omega)]
theorem al_c (ht : t < 16) (hO : ∀ x ∈ s.1, okK x) (v : Int32) : f_count v (mS t s) = f_count v s := by
  unfold f_count
  show sel v [nI (mR t s.1).length, nI (sp2 (mdN (mR t s.1))), nI (sp2 (lcN (mR t s.1))) - nI (sp2 (mdN (mR t s.1))), nI (mx2 (stN (mR t s.1)) 64), nI (sumN (omN (mR t s.1)) 64), nI (maxN (pts (mR t s.1)) 64), nI (minN (pts (mR t s.1)) 64), nI (s.2.1.map (mR t)).length, nI s.2.2.2.length] = _
  rw [mR_len, spmd_mk ht hO, splc_mk hO, mxst_mk ht hO, omN_mk ht hO, mxp_mk ht hO, mnp_mk ht hO, List.length_map]
theorem al_m (ht : t < 16) (hO : ∀ x ∈ s.1, okK x) {m : Nat} (hm : m < 64) (v : Int32) : f_moment (nI (63 - m)) v (mS t s) = f_moment (nI m) v s := by
  rw [f_mom hm, f_mom (show 63 - m < 64 by omega)]
  show sel v [nI ((mR t s.1).countP (lvB ((63 - m : Nat) : Int))), nI (pts (mR t s.1) (63 - m)), bI (OM (mR t s.1) (63 - m)), nI (maxN (pSz (mR t s.1) (63 - m)) 16), nI (sumN (nlN (mR t s.1) (63 - m)) (mR t s.1).length), nI (sumN (alN (mR t s.1) (63 - m)) 16)] = _
  rw [lv_mk hO hm, pts_mk ht hO hm, mxP_mk ht hO hm, nlN_mk ht hO hm, alN_mk ht hO hm, show bI (OM (mR t s.1) (63 - m)) = bI (OM s.1 m) from congrArg bI (propext (OM_mk ht hO hm))]
theorem al_s0 {m d : Nat} (hm : m < 64) (hd : d < 7) : f_span (nI m) (nI d) 0 s = 64 - f_span (nI (63 - m)) (nI d) 0 (mS t s) - f_span (nI (63 - m)) (nI d) 1 (mS t s) := by
  have h1 := sbm m hm d hd
  have h2 := (sl_64 d hd)
  rw [v_s0 hm hd, v_s0 (show 63 - m < 64 by omega) hd, v_s1 (show 63 - m < 64 by omega) hd, show (64 : Int32) = nI 64 by rfl, pk_sub (by omega), pk_sub (by omega)]
  congr 1
  omega
theorem al_s2 (hO : ∀ x ∈ s.1, okK x) {m d : Nat} (hm : m < 64) (hd : d < 7) : f_span (nI (63 - m)) (nI d) 2 (mS t s) = f_span (nI m) (nI d) 2 s := by
  rw [v_s2 hm hd, v_s2 (show 63 - m < 64 by omega) hd]
  exact congrArg nI (lcN_mk hO hm hd)
theorem al_s3 (ht : t < 16) (hO : ∀ x ∈ s.1, okK x) {m d : Nat} (hm : m < 64) (hd : d < 7) : f_span (nI (63 - m)) (nI d) 3 (mS t s) = f_span (nI m) (nI d) 3 s := by
  rw [v_s3 hm hd, v_s3 (show 63 - m < 64 by omega) hd]
  exact congrArg nI (mdN_mk ht hO hm hd)
theorem al_s4 (ht : t < 16) (hO : ∀ x ∈ s.1, okK x) {m d : Nat} (hm : m < 64) (hd : d < 7) : f_span (nI (63 - m)) (nI d) 4 (mS t s) = f_span (nI m) (nI d) 4 s := by
  rw [v_s4 hm hd, v_s4 (show 63 - m < 64 by omega) hd]
  show nI (lcN (mR t s.1) (63 - m) d) - nI (mdN (mR t s.1) (63 - m) d) = _
  rw [mdN_mk ht hO hm hd, lcN_mk hO hm hd]
theorem al_l0 (ht : t < 16) (hO : ∀ x ∈ s.1, okK x) (h4 : s.1.length ≤ 40) {k : Nat} {y : Lk} (hy : s.1[k]? = some y) : f_link (nI k) 0 (mS t s) ^^^ nI t = f_link (nI k) 0 s := by
  have ok := hO y (List.mem_of_getElem? hy)
  rw [v_l0 hy h4, v_l0 (s := mS t s) (y := mk t y) (mR_get hy) (by show (mR t s.1).length ≤ 40; rw [mR_len]; exact h4)]
  show nI (y.1 ^^^ t) ^^^ nI t = nI y.1
  rw [xrI t ht _ (xr1 t ht _ ok.1), xr2 t ht _ ok.1]
theorem al_l1 (ht : t < 16) (hO : ∀ x ∈ s.1, okK x) (h4 : s.1.length ≤ 40) {k : Nat} {y : Lk} (hy : s.1[k]? = some y) : f_link (nI k) 1 (mS t s) ^^^ nI t = f_link (nI k) 1 s := by
  have ok := hO y (List.mem_of_getElem? hy)
  rw [v_l1 hy h4, v_l1 (s := mS t s) (y := mk t y) (mR_get hy) (by show (mR t s.1).length ≤ 40; rw [mR_len]; exact h4)]
  show nI (y.2.1 ^^^ t) ^^^ nI t = nI y.2.1
  rw [xrI t ht _ (xr1 t ht _ ok.2.1), xr2 t ht _ ok.2.1]
theorem al_l2 (hO : ∀ x ∈ s.1, okK x) (h4 : s.1.length ≤ 40) {k : Nat} {y : Lk} (hy : s.1[k]? = some y) : 64 - f_link (nI k) 3 (mS t s) = f_link (nI k) 2 s := by
  have ok := hO y (List.mem_of_getElem? hy)
  have o4 := ok.2.2.2.1
  have o5 := ok.2.2.2.2
  rw [v_l2 hy h4, v_l3 (s := mS t s) (y := mk t y) (mR_get hy) (by show (mR t s.1).length ≤ 40; rw [mR_len]; exact h4)]
  show nI 64 - nI (64 - y.2.2.1) = nI y.2.2.1
  rw [pk_sub (by omega), show 64 - (64 - y.2.2.1) = y.2.2.1 by omega]
theorem al_l3 (hO : ∀ x ∈ s.1, okK x) (h4 : s.1.length ≤ 40) {k : Nat} {y : Lk} (hy : s.1[k]? = some y) : 64 - f_link (nI k) 2 (mS t s) = f_link (nI k) 3 s := by
  have ok := hO y (List.mem_of_getElem? hy)
  have o4 := ok.2.2.2.1
  have o5 := ok.2.2.2.2
  rw [v_l3 hy h4, v_l2 (s := mS t s) (y := mk t y) (mR_get hy) (by show (mR t s.1).length ≤ 40; rw [mR_len]; exact h4)]
  show nI 64 - nI (64 - y.2.2.2) = nI y.2.2.2
  rw [pk_sub (by omega), show 64 - (64 - y.2.2.2) = y.2.2.2 by omega]
theorem al_l4 (hO : ∀ x ∈ s.1, okK x) (h4 : s.1.length ≤ 40) {k : Nat} {y : Lk} (hy : s.1[k]? = some y) : f_link (nI k) 4 (mS t s) = f_link (nI k) 4 s := by
  have ok := hO y (List.mem_of_getElem? hy)
  rw [v_l4 hy h4, v_l4 (s := mS t s) (y := mk t y) (mR_get hy) (by show (mR t s.1).length ≤ 40; rw [mR_len]; exact h4), spN_mk ok]
theorem al_l5 (ht : t < 16) (hO : ∀ x ∈ s.1, okK x) (h4 : s.1.length ≤ 40) {k : Nat} {y : Lk} (hy : s.1[k]? = some y) : f_link (nI k) 5 (mS t s) = f_link (nI k) 5 s := by
  have ok := hO y (List.mem_of_getElem? hy)
  rw [v_l5 hy h4, v_l5 (s := mS t s) (y := mk t y) (mR_get hy) (by show (mR t s.1).length ≤ 40; rw [mR_len]; exact h4)]
  exact congrArg nI (nmN_mk ht hO ok)
theorem al_n (ht : t < 16) (hO : ∀ x ∈ s.1, okK x) (h4 : s.1.length ≤ 40) {k m : Nat} {y : Lk} (hm : m < 64) (hy : s.1[k]? = some y) : f_needed (nI k) (nI (63 - m)) (mS t s) = f_needed (nI k) (nI m) s := by
  have ok := hO y (List.mem_of_getElem? hy)
  rw [v_n hm hy h4, v_n (s := mS t s) (y := mk t y) (show 63 - m < 64 by omega) (mR_get hy) (by show (mR t s.1).length ≤ 40; rw [mR_len]; exact h4), lvB_mk hm ok]
  exact congrArg (ci (¬ lvB (m : Int) y = true) (-5)) (congrArg bI (propext (NM_mk ht hO hm ok)))
theorem BS.c {r : Int32} {P Q : Nat → Prop} (h : BS r P) (e : ∀ i, i < 16 → (P i ↔ Q i)) : BS r Q := fun i => (h i).trans ⟨fun z => ⟨z.1, (e i z.1).mp z.2⟩, fun z => ⟨z.1, (e i z.1).mpr z.2⟩⟩
theorem al_p (ht : t < 16) (hO : ∀ x ∈ s.1, okK x) {m p : Nat} (hm : m < 64) (hp : p < 16) {x : Int32} (hx : BS x (fun i => CM s.1 m p (i ^^^ t))) : x = f_part (nI (63 - m)) (nI (p ^^^ t)) 2 (mS t s) := by
  rw [v_p2 (show 63 - m < 64 by omega) (xr1 t ht p hp)]
  refine (hx.c (fun i hi => ?_)).uniq (bt_spec (ls := mR t s.1) (63 - m) (p ^^^ t))
  have := CM_mk (t := t) ht hO hm hp (xr1 t ht i hi)
  rw [xr2 t ht i hi] at this
  exact this.symm
theorem al_t (ht : t < 16) (hO : ∀ x ∈ s.1, okK x) {x y : Nat} (hx : x < 16) (hy : y < 16) : f_tog (nI (x ^^^ t)) (nI (y ^^^ t)) 0 (mS t s) = f_tog (nI x) (nI y) 0 s ∧ f_tog (nI (x ^^^ t)) (nI (y ^^^ t)) 3 (mS t s) = f_tog (nI x) (nI y) 3 s ∧
    ((f_tog (nI x) (nI y) 1 s = -5 ∧ f_tog (nI x) (nI y) 2 s = -5 ∧ f_tog (nI (x ^^^ t)) (nI (y ^^^ t)) 1 (mS t s) = -5) ∨ ∃ f l, f < 64 ∧ l < 64 ∧ f_tog (nI x) (nI y) 1 s = nI f ∧ f_tog (nI x) (nI y) 2 s = nI l ∧ f_tog (nI (x ^^^ t)) (nI (y ^^^ t)) 2 (mS t s) = nI (63 - f) ∧ f_tog (nI (x ^^^ t)) (nI (y ^^^ t)) 1 (mS t s) = nI (63 - l)) := by
  have hx' := xr1 t ht x hx
  have hy' := xr1 t ht y hy
  obtain ⟨a1, a2, a3⟩ := tg_rev (P := fun m => CM s.1 m x y) (P' := fun m => CM (mR t s.1) m (x ^^^ t) (y ^^^ t)) (fun m hm => CM_mk ht hO hm hx hy)
  rw [v_t0 hx hy, v_t0 hx' hy', v_t3 hx hy, v_t3 hx' hy', v_t1 hx hy, v_t1 hx' hy', v_t2 hx hy, v_t2 hx' hy']
  exact ⟨congrArg nI a1, congrArg nI a2, a3⟩
end Vals
/-! two objects: the first at 1, the second at 57 -/
def W3 (h : g_H) (s1 s2 : St) : Prop := CI h 1 s1 ∧ CI h 57 s2 ∧ h.2 = 112
section Two
variable {h : g_H} {s1 s2 : St} {Q : Option Value → g_H → Prop}
theorem W3.o1 (c : W3 h s1 s2) : ∃ fs, h.1 1 = .inr (6, fs) := ⟨_, c.1.o⟩
theorem W3.b1 (c : W3 h s1 s2) : 1 ≤ 1 ∧ 1 ≤ h.2 := c.1.bo
theorem W3.b2 (c : W3 h s1 s2) : 1 ≤ 57 ∧ 57 ≤ h.2 := c.2.1.bo
theorem W3.hO (c : W3 h s1 s2) : ∀ x ∈ s1.1, okK x := c.1.L.ok
theorem W3.h4 (c : W3 h s1 s2) : s1.1.length ≤ 40 := c.1.L.len
theorem q1_count {v : Int32} (hW : W3 h s1 s2) (hQ : ∀ h', W3 h' s1 s2 → Q (some (.int (f_count v s1))) h') : MJ m_X6_count 6 0 0 [.ref 1, .int v] h Q := s_X6_count hW.1 (fun h' r e F C => by subst e; exact hQ h' ⟨C, hW.2.1.fr F (by omega), by rw [F.1]; exact hW.2.2⟩)
theorem q2_count {v : Int32} (hW : W3 h s1 s2) (hQ : ∀ h', W3 h' s1 s2 → Q (some (.int (f_count v s2))) h') : MJ m_X6_count 6 0 0 [.ref 57, .int v] h Q := s_X6_count hW.2.1 (fun h' r e F C => by subst e; exact hQ h' ⟨hW.1.fr F (by omega), C, by rw [F.1]; exact hW.2.2⟩)
theorem q1_link {x v : Int32} (hW : W3 h s1 s2) (hQ : ∀ h', W3 h' s1 s2 → Q (some (.int (f_link x v s1))) h') : MJ m_X6_link 6 0 0 [.ref 1, .int x, .int v] h Q := s_X6_link hW.1 (fun h' r e F C => by subst e; exact hQ h' ⟨C, hW.2.1.fr F (by omega), by rw [F.1]; exact hW.2.2⟩)
theorem q2_link {x v : Int32} (hW : W3 h s1 s2) (hQ : ∀ h', W3 h' s1 s2 → Q (some (.int (f_link x v s2))) h') : MJ m_X6_link 6 0 0 [.ref 57, .int x, .int v] h Q := s_X6_link hW.2.1 (fun h' r e F C => by subst e; exact hQ h' ⟨hW.1.fr F (by omega), C, by rw [F.1]; exact hW.2.2⟩)
theorem q1_joined {m x y : Int32} (hW : W3 h s1 s2) (hQ : ∀ h', W3 h' s1 s2 → Q (some (.int (f_joined m x y s1))) h') : MJ m_X6_joined 5 0 0 [.ref 1, .int m, .int x, .int y] h Q := s_X6_joined hW.1 (fun h' r e F C => by subst e; exact hQ h' ⟨C, hW.2.1.fr F (by omega), by rw [F.1]; exact hW.2.2⟩)
theorem q2_joined {m x y : Int32} (hW : W3 h s1 s2) (hQ : ∀ h', W3 h' s1 s2 → Q (some (.int (f_joined m x y s2))) h') : MJ m_X6_joined 5 0 0 [.ref 57, .int m, .int x, .int y] h Q := s_X6_joined hW.2.1 (fun h' r e F C => by subst e; exact hQ h' ⟨hW.1.fr F (by omega), C, by rw [F.1]; exact hW.2.2⟩)
theorem q1_moment {m v : Int32} (hW : W3 h s1 s2) (hQ : ∀ h', W3 h' s1 s2 → Q (some (.int (f_moment m v s1))) h') : MJ m_X6_moment 6 0 0 [.ref 1, .int m, .int v] h Q := s_X6_moment hW.1 (fun h' r e F C => by subst e; exact hQ h' ⟨C, hW.2.1.fr F (by omega), by rw [F.1]; exact hW.2.2⟩)
theorem q2_moment {m v : Int32} (hW : W3 h s1 s2) (hQ : ∀ h', W3 h' s1 s2 → Q (some (.int (f_moment m v s2))) h') : MJ m_X6_moment 6 0 0 [.ref 57, .int m, .int v] h Q := s_X6_moment hW.2.1 (fun h' r e F C => by subst e; exact hQ h' ⟨hW.1.fr F (by omega), C, by rw [F.1]; exact hW.2.2⟩)
theorem q1_part {m p v : Int32} (hW : W3 h s1 s2) (hQ : ∀ h', W3 h' s1 s2 → Q (some (.int (f_part m p v s1))) h') : MJ m_X6_part 5 0 0 [.ref 1, .int m, .int p, .int v] h Q := s_X6_part hW.1 (fun h' r e F C => by subst e; exact hQ h' ⟨C, hW.2.1.fr F (by omega), by rw [F.1]; exact hW.2.2⟩)
theorem q2_part {m p v : Int32} (hW : W3 h s1 s2) (hQ : ∀ h', W3 h' s1 s2 → Q (some (.int (f_part m p v s2))) h') : MJ m_X6_part 5 0 0 [.ref 57, .int m, .int p, .int v] h Q := s_X6_part hW.2.1 (fun h' r e F C => by subst e; exact hQ h' ⟨hW.1.fr F (by omega), C, by rw [F.1]; exact hW.2.2⟩)
theorem q1_needed {x m : Int32} (hW : W3 h s1 s2) (hQ : ∀ h', W3 h' s1 s2 → Q (some (.int (f_needed x m s1))) h') : MJ m_X6_needed 5 0 0 [.ref 1, .int x, .int m] h Q := s_X6_needed hW.1 (fun h' r e F C => by subst e; exact hQ h' ⟨C, hW.2.1.fr F (by omega), by rw [F.1]; exact hW.2.2⟩)
theorem q2_needed {x m : Int32} (hW : W3 h s1 s2) (hQ : ∀ h', W3 h' s1 s2 → Q (some (.int (f_needed x m s2))) h') : MJ m_X6_needed 5 0 0 [.ref 57, .int x, .int m] h Q := s_X6_needed hW.2.1 (fun h' r e F C => by subst e; exact hQ h' ⟨hW.1.fr F (by omega), C, by rw [F.1]; exact hW.2.2⟩)
theorem q1_together {x y v : Int32} (hW : W3 h s1 s2) (hQ : ∀ h', W3 h' s1 s2 → Q (some (.int (f_tog x y v s1))) h') : MJ m_X6_together 5 0 0 [.ref 1, .int x, .int y, .int v] h Q := s_X6_together hW.1 (fun h' r e F C => by subst e; exact hQ h' ⟨C, hW.2.1.fr F (by omega), by rw [F.1]; exact hW.2.2⟩)
theorem q2_together {x y v : Int32} (hW : W3 h s1 s2) (hQ : ∀ h', W3 h' s1 s2 → Q (some (.int (f_tog x y v s2))) h') : MJ m_X6_together 5 0 0 [.ref 57, .int x, .int y, .int v] h Q := s_X6_together hW.2.1 (fun h' r e F C => by subst e; exact hQ h' ⟨hW.1.fr F (by omega), C, by rw [F.1]; exact hW.2.2⟩)
theorem q1_odd {m : Int32} (hW : W3 h s1 s2) (hQ : ∀ h', W3 h' s1 s2 → Q (some (.int (f_odd m s1))) h') : MJ m_X6_odd 4 0 0 [.ref 1, .int m] h Q := s_X6_odd hW.1 (fun h' r e F C => by subst e; exact hQ h' ⟨C, hW.2.1.fr F (by omega), by rw [F.1]; exact hW.2.2⟩)
theorem q2_odd {m : Int32} (hW : W3 h s1 s2) (hQ : ∀ h', W3 h' s1 s2 → Q (some (.int (f_odd m s2))) h') : MJ m_X6_odd 4 0 0 [.ref 57, .int m] h Q := s_X6_odd hW.2.1 (fun h' r e F C => by subst e; exact hQ h' ⟨hW.1.fr F (by omega), C, by rw [F.1]; exact hW.2.2⟩)
theorem q1_span {m d v : Int32} (hW : W3 h s1 s2) (hQ : ∀ h', W3 h' s1 s2 → Q (some (.int (f_span m d v s1))) h') : MJ m_X6_span 5 0 0 [.ref 1, .int m, .int d, .int v] h Q := s_X6_span hW.1 (fun h' r e F C => by subst e; exact hQ h' ⟨C, hW.2.1.fr F (by omega), by rw [F.1]; exact hW.2.2⟩)
theorem q2_span {m d v : Int32} (hW : W3 h s1 s2) (hQ : ∀ h', W3 h' s1 s2 → Q (some (.int (f_span m d v s2))) h') : MJ m_X6_span 5 0 0 [.ref 57, .int m, .int d, .int v] h Q := s_X6_span hW.2.1 (fun h' r e F C => by subst e; exact hQ h' ⟨hW.1.fr F (by omega), C, by rw [F.1]; exact hW.2.2⟩)
theorem a1_addLink {x y f t : Int32} (hW : W3 h s1 s2) (hQ : ∀ h', W3 h' (f_add x y f t s1).2 s2 → Q (some (.int (f_add x y f t s1).1)) h') : MJ m_X6_addLink 5 0 0 [.ref 1, .int x, .int y, .int f, .int t] h Q := s_X6_addLink hW.1 (fun h' r s' e F C => by have e1 := congrArg Prod.fst e; have e2 := congrArg Prod.snd e; dsimp only at e1 e2; subst e1; subst e2; exact hQ h' ⟨C, hW.2.1.fr F (by omega), by rw [F.1]; exact hW.2.2⟩)
theorem a2_addLink {x y f t : Int32} (hW : W3 h s1 s2) (hQ : ∀ h', W3 h' s1 (f_add x y f t s2).2 → Q (some (.int (f_add x y f t s2).1)) h') : MJ m_X6_addLink 5 0 0 [.ref 57, .int x, .int y, .int f, .int t] h Q := s_X6_addLink hW.2.1 (fun h' r s' e F C => by have e1 := congrArg Prod.fst e; have e2 := congrArg Prod.snd e; dsimp only at e1 e2; subst e1; subst e2; exact hQ h' ⟨hW.1.fr F (by omega), C, by rw [F.1]; exact hW.2.2⟩)
theorem a1_removeLink {x : Int32} (hW : W3 h s1 s2) (hQ : ∀ h', W3 h' (f_rem x s1).2 s2 → Q (some (.int (f_rem x s1).1)) h') : MJ m_X6_removeLink 5 0 0 [.ref 1, .int x] h Q := s_X6_removeLink hW.1 (fun h' r s' e F C => by have e1 := congrArg Prod.fst e; have e2 := congrArg Prod.snd e; dsimp only at e1 e2; subst e1; subst e2; exact hQ h' ⟨C, hW.2.1.fr F (by omega), by rw [F.1]; exact hW.2.2⟩)
theorem a2_removeLink {x : Int32} (hW : W3 h s1 s2) (hQ : ∀ h', W3 h' s1 (f_rem x s2).2 → Q (some (.int (f_rem x s2).1)) h') : MJ m_X6_removeLink 5 0 0 [.ref 57, .int x] h Q := s_X6_removeLink hW.2.1 (fun h' r s' e F C => by have e1 := congrArg Prod.fst e; have e2 := congrArg Prod.snd e; dsimp only at e1 e2; subst e1; subst e2; exact hQ h' ⟨hW.1.fr F (by omega), C, by rw [F.1]; exact hW.2.2⟩)
theorem a1_setLife {x f t : Int32} (hW : W3 h s1 s2) (hQ : ∀ h', W3 h' (f_life x f t s1).2 s2 → Q (some (.int (f_life x f t s1).1)) h') : MJ m_X6_setLife 5 0 0 [.ref 1, .int x, .int f, .int t] h Q := s_X6_setLife hW.1 (fun h' r s' e F C => by have e1 := congrArg Prod.fst e; have e2 := congrArg Prod.snd e; dsimp only at e1 e2; subst e1; subst e2; exact hQ h' ⟨C, hW.2.1.fr F (by omega), by rw [F.1]; exact hW.2.2⟩)
theorem a2_setLife {x f t : Int32} (hW : W3 h s1 s2) (hQ : ∀ h', W3 h' s1 (f_life x f t s2).2 → Q (some (.int (f_life x f t s2).1)) h') : MJ m_X6_setLife 5 0 0 [.ref 57, .int x, .int f, .int t] h Q := s_X6_setLife hW.2.1 (fun h' r s' e F C => by have e1 := congrArg Prod.fst e; have e2 := congrArg Prod.snd e; dsimp only at e1 e2; subst e1; subst e2; exact hQ h' ⟨hW.1.fr F (by omega), C, by rw [F.1]; exact hW.2.2⟩)
theorem a1_clear {m : Int32} (hW : W3 h s1 s2) (hQ : ∀ h', W3 h' (f_clear m s1).2 s2 → Q (some (.int (f_clear m s1).1)) h') : MJ m_X6_clear 5 0 0 [.ref 1, .int m] h Q := s_X6_clear hW.1 (fun h' r s' e F C => by have e1 := congrArg Prod.fst e; have e2 := congrArg Prod.snd e; dsimp only at e1 e2; subst e1; subst e2; exact hQ h' ⟨C, hW.2.1.fr F (by omega), by rw [F.1]; exact hW.2.2⟩)
theorem a2_clear {m : Int32} (hW : W3 h s1 s2) (hQ : ∀ h', W3 h' s1 (f_clear m s2).2 → Q (some (.int (f_clear m s2).1)) h') : MJ m_X6_clear 5 0 0 [.ref 57, .int m] h Q := s_X6_clear hW.2.1 (fun h' r s' e F C => by have e1 := congrArg Prod.fst e; have e2 := congrArg Prod.snd e; dsimp only at e1 e2; subst e1; subst e2; exact hQ h' ⟨hW.1.fr F (by omega), C, by rw [F.1]; exact hW.2.2⟩)
theorem a1_undo (hW : W3 h s1 s2) (hQ : ∀ h', W3 h' (f_undo s1).2 s2 → Q (some (.int (f_undo s1).1)) h') : MJ m_X6_undo 5 0 0 [.ref 1] h Q := s_X6_undo hW.1 (fun h' r s' e F C => by have e1 := congrArg Prod.fst e; have e2 := congrArg Prod.snd e; dsimp only at e1 e2; subst e1; subst e2; exact hQ h' ⟨C, hW.2.1.fr F (by omega), by rw [F.1]; exact hW.2.2⟩)
theorem a2_undo (hW : W3 h s1 s2) (hQ : ∀ h', W3 h' s1 (f_undo s2).2 → Q (some (.int (f_undo s2).1)) h') : MJ m_X6_undo 5 0 0 [.ref 57] h Q := s_X6_undo hW.2.1 (fun h' r s' e F C => by have e1 := congrArg Prod.fst e; have e2 := congrArg Prod.snd e; dsimp only at e1 e2; subst e1; subst e2; exact hQ h' ⟨hW.1.fr F (by omega), C, by rw [F.1]; exact hW.2.2⟩)
theorem a1_keep (hW : W3 h s1 s2) (hQ : ∀ h', W3 h' (f_keep s1).2 s2 → Q (some (.int (f_keep s1).1)) h') : MJ m_X6_keep 4 0 0 [.ref 1] h Q := s_X6_keep hW.1 (fun h' r s' e F C => by have e1 := congrArg Prod.fst e; have e2 := congrArg Prod.snd e; dsimp only at e1 e2; subst e1; subst e2; exact hQ h' ⟨C, hW.2.1.fr F (by omega), by rw [F.1]; exact hW.2.2⟩)
theorem a2_keep (hW : W3 h s1 s2) (hQ : ∀ h', W3 h' s1 (f_keep s2).2 → Q (some (.int (f_keep s2).1)) h') : MJ m_X6_keep 4 0 0 [.ref 57] h Q := s_X6_keep hW.2.1 (fun h' r s' e F C => by have e1 := congrArg Prod.fst e; have e2 := congrArg Prod.snd e; dsimp only at e1 e2; subst e1; subst e2; exact hQ h' ⟨hW.1.fr F (by omega), C, by rw [F.1]; exact hW.2.2⟩)
theorem a1_restore (hW : W3 h s1 s2) (hQ : ∀ h', W3 h' (f_rest s1).2 s2 → Q (some (.int (f_rest s1).1)) h') : MJ m_X6_restore 5 0 0 [.ref 1] h Q := s_X6_restore hW.1 (fun h' r s' e F C => by have e1 := congrArg Prod.fst e; have e2 := congrArg Prod.snd e; dsimp only at e1 e2; subst e1; subst e2; exact hQ h' ⟨C, hW.2.1.fr F (by omega), by rw [F.1]; exact hW.2.2⟩)
theorem a2_restore (hW : W3 h s1 s2) (hQ : ∀ h', W3 h' s1 (f_rest s2).2 → Q (some (.int (f_rest s2).1)) h') : MJ m_X6_restore 5 0 0 [.ref 57] h Q := s_X6_restore hW.2.1 (fun h' r s' e F C => by have e1 := congrArg Prod.fst e; have e2 := congrArg Prod.snd e; dsimp only at e1 e2; subst e1; subst e2; exact hQ h' ⟨hW.1.fr F (by omega), C, by rw [F.1]; exact hW.2.2⟩)
end Two
