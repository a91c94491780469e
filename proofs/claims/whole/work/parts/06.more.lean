section SCD
variable {P S R Q st pc sz d rc fi ci fo co : Nat} {ops args stk ret xi xo yi yo : Nat → Int32}
/-! compile: the two scans go in step -/
theorem sx_tt (post : Int32 → Prop) {i n : Nat} (hi : i < sz) (hs : sz ≤ 24) (t : ops i = 17 ∨ ops i = 18 ∨ ops i = 19) (h : wX_targetsAreInside_40 post (wX_targetsAreInside_2 post (nI P) (nI S) (nI R) (nI Q) (nI st) (nI pc) (nI sz) (nI d) (nI rc) (nI fi) (nI ci) (nI fo) (nI co) ops args stk ret xi xo n) (nI i) 1 (nI P) (nI S) (nI R) (nI Q) (nI st) (nI pc) (nI sz) (nI d) (nI rc) (nI fi) (nI ci) (nI fo) (nI co) ops args stk ret xi xo) : wX_targetsAreInside_2 post (nI P) (nI S) (nI R) (nI Q) (nI st) (nI pc) (nI sz) (nI d) (nI rc) (nI fi) (nI ci) (nI fo) (nI co) ops args stk ret xi xo (n + 1) (nI i) := by
  have ci' : (nI i).toNatClampNeg = i := nI_clamp (by omega)
  exact br_f (nI_ge hi (by omega)) ⟨vp_in_nI (by omega) (by omega), nm_r (e' := ops i) (by rw [ci']) (br_c (fun _ => h) (fun n1 => br_c (fun _ => h) (fun n2 => br_c (fun _ => h) (fun n3 => absurd t (by simp [n1, n2, n3])))))⟩
theorem sx_tn (post : Int32 → Prop) {i n : Nat} (hi : i < sz) (hs : sz ≤ 24) (t : ¬ (ops i = 17 ∨ ops i = 18 ∨ ops i = 19)) (h : wX_targetsAreInside_2 post (nI P) (nI S) (nI R) (nI Q) (nI st) (nI pc) (nI sz) (nI d) (nI rc) (nI fi) (nI ci) (nI fo) (nI co) ops args stk ret xi xo n (nI (i + 1))) : wX_targetsAreInside_2 post (nI P) (nI S) (nI R) (nI Q) (nI st) (nI pc) (nI sz) (nI d) (nI rc) (nI fi) (nI ci) (nI fo) (nI co) ops args stk ret xi xo (n + 1) (nI i) := by
  have ci' : (nI i).toNatClampNeg = i := nI_clamp (by omega)
  exact br_f (nI_ge hi (by omega)) ⟨vp_in_nI (by omega) (by omega), nm_r (e' := ops i) (by rw [ci']) (br_f (fun e => t (Or.inl e)) (br_f (fun e => t (Or.inr (Or.inl e))) (br_f (fun e => t (Or.inr (Or.inr e))) (br_t rfl (nm_r (nI_1 i) h)))))⟩
theorem sy_tt (post : Int32 → SY → Prop) {i n : Nat} (hi : i < sz) (hs : sz ≤ 24) (t : ops i = 17 ∨ ops i = 18 ∨ ops i = 19) (h : wY_compile_98 post (wY_compile_52 post (nI P) (nI S) (nI R) (nI Q) (nI sz) (nI d) (nI rc) (nI ci) (nI co) (nI st) (nI pc) ops args stk ret yi yo n) (nI i) 1 (nI P) (nI S) (nI R) (nI Q) (nI sz) (nI d) (nI rc) (nI ci) (nI co) (nI st) (nI pc) ops args stk ret yi yo) : wY_compile_52 post (nI P) (nI S) (nI R) (nI Q) (nI sz) (nI d) (nI rc) (nI ci) (nI co) (nI st) (nI pc) ops args stk ret yi yo (n + 1) (nI i) := by
  have ci' : (nI i).toNatClampNeg = i := nI_clamp (by omega)
  have vi : vp_in (nI i) 24 := vp_in_nI (by omega) (by omega)
  have t2 : ops (nI i).toNatClampNeg = 17 ∨ ops (nI i).toNatClampNeg = 18 ∨ ops (nI i).toNatClampNeg = 19 := by rw [ci']; exact t
  exact br_f (nI_ge hi (by omega)) ⟨vi, br_c (fun _ => h) (fun n1 => ⟨vi, br_c (fun _ => h) (fun n2 => ⟨vi, br_c (fun _ => h) (fun n3 => absurd t2 (by simp [n1, n2, n3]))⟩)⟩)⟩
theorem sy_tn (post : Int32 → SY → Prop) {i n : Nat} (hi : i < sz) (hs : sz ≤ 24) (t : ¬ (ops i = 17 ∨ ops i = 18 ∨ ops i = 19)) (h : wY_compile_52 post (nI P) (nI S) (nI R) (nI Q) (nI sz) (nI d) (nI rc) (nI ci) (nI co) (nI st) (nI pc) ops args stk ret yi yo n (nI (i + 1))) : wY_compile_52 post (nI P) (nI S) (nI R) (nI Q) (nI sz) (nI d) (nI rc) (nI ci) (nI co) (nI st) (nI pc) ops args stk ret yi yo (n + 1) (nI i) := by
  have ci' : (nI i).toNatClampNeg = i := nI_clamp (by omega)
  have vi : vp_in (nI i) 24 := vp_in_nI (by omega) (by omega)
  have t2 : ¬ (ops (nI i).toNatClampNeg = 17 ∨ ops (nI i).toNatClampNeg = 18 ∨ ops (nI i).toNatClampNeg = 19) := by rw [ci']; exact t
  exact br_f (nI_ge hi (by omega)) ⟨vi, br_f (fun e => t2 (Or.inl e)) ⟨vi, br_f (fun e => t2 (Or.inr (Or.inl e))) ⟨vi, br_f (fun e => t2 (Or.inr (Or.inr e))) (br_t rfl (nm_r (nI_1 i) h))⟩⟩⟩
theorem sc_scan (hs : sz ≤ 24) : ∀ m i, i + m = sz → sc_T sz i ops args →
    (sc_T sz sz ops args ∧ (∀ post : Int32 → Prop, post 1 → wX_targetsAreInside_2 post (nI P) (nI S) (nI R) (nI Q) (nI st) (nI pc) (nI sz) (nI d) (nI rc) (nI fi) (nI ci) (nI fo) (nI co) ops args stk ret xi xo (m + 1) (nI i)) ∧ (∀ post : Int32 → SY → Prop, post 1 (nI P, nI S, nI R, nI Q, nI sz, nI 0, nI 0, nI ci, nI co, nI 1, nI 0, ops, args, stk, ret, yi, yo) → wY_compile_52 post (nI P) (nI S) (nI R) (nI Q) (nI sz) (nI d) (nI rc) (nI ci) (nI co) (nI st) (nI pc) ops args stk ret yi yo (m + 1) (nI i)))
    ∨ ((∀ post : Int32 → Prop, post 0 → wX_targetsAreInside_2 post (nI P) (nI S) (nI R) (nI Q) (nI st) (nI pc) (nI sz) (nI d) (nI rc) (nI fi) (nI ci) (nI fo) (nI co) ops args stk ret xi xo (m + 1) (nI i)) ∧ (∀ post : Int32 → SY → Prop, post (-4) (nI P, nI S, nI R, nI Q, nI sz, nI d, nI rc, nI ci, nI co, nI st, nI pc, ops, args, stk, ret, yi, yo) → wY_compile_52 post (nI P) (nI S) (nI R) (nI Q) (nI sz) (nI d) (nI rc) (nI ci) (nI co) (nI st) (nI pc) ops args stk ret yi yo (m + 1) (nI i))) := by
  intro m
  induction m with
  | zero =>
    intro i hi hT
    obtain rfl : i = sz := by omega
    have hl : nI i ≤ nI i := nI_le (Nat.le_refl _) (by omega)
    exact Or.inl ⟨hT, fun post h => br_t hl h, fun post h => br_t hl h⟩
  | succ m ih =>
    intro i hi hT
    have hi2 : i < sz := by omega
    have ci' : (nI i).toNatClampNeg = i := nI_clamp (by omega)
    have vi : vp_in (nI i) 24 := vp_in_nI (by omega) (by omega)
    by_cases t : ops i = 17 ∨ ops i = 18 ∨ ops i = 19
    · rcases pk_ix (args i) (n := sz) (by omega) with c | c | ⟨j, hj, c⟩
      · have c2 : args (nI i).toNatClampNeg < 0 := by rw [ci']; exact c
        exact Or.inr ⟨fun post h => sx_tt post hi2 hs t (br_f (by decide) ⟨vi, br_t c2 h⟩), fun post h => sy_tt post hi2 hs t (br_f (by decide) ⟨vi, br_t c2 h⟩)⟩
      · have c1 : ¬ args (nI i).toNatClampNeg < 0 := by rw [ci']; exact Int32.not_lt.mpr (Int32.le_trans (nI_pos' (by omega)) c)
        have c2 : ¬ args (nI i).toNatClampNeg < nI sz := by rw [ci']; exact Int32.not_lt.mpr c
        exact Or.inr ⟨fun post h => sx_tt post hi2 hs t (br_f (by decide) ⟨vi, br_f c1 ⟨vi, br_f c2 h⟩⟩), fun post h => sy_tt post hi2 hs t (br_f (by decide) ⟨vi, br_f c1 ⟨vi, br_f c2 h⟩⟩)⟩
      · have c1 : ¬ args (nI i).toNatClampNeg < 0 := by rw [ci', c]; exact nI_pos (by omega)
        have c2 : args (nI i).toNatClampNeg < nI sz := by rw [ci', c]; exact nI_lt hj (by omega)
        have hT2 : sc_T sz (i + 1) ops args := fun a ha ta => by
          by_cases e : a = i
          · exact ⟨j, hj, by rw [e]; exact c⟩
          · exact hT a (by omega) ta
        rcases ih (i + 1) (by omega) hT2 with ⟨g, hx, hy⟩ | ⟨hx, hy⟩
        · exact Or.inl ⟨g, fun post h => sx_tt post hi2 hs t (br_f (by decide) ⟨vi, br_f c1 ⟨vi, br_t c2 (nm_r (nI_1 i) (hx post h))⟩⟩), fun post h => sy_tt post hi2 hs t (br_f (by decide) ⟨vi, br_f c1 ⟨vi, br_t c2 (nm_r (nI_1 i) (hy post h))⟩⟩)⟩
        · exact Or.inr ⟨fun post h => sx_tt post hi2 hs t (br_f (by decide) ⟨vi, br_f c1 ⟨vi, br_t c2 (nm_r (nI_1 i) (hx post h))⟩⟩), fun post h => sy_tt post hi2 hs t (br_f (by decide) ⟨vi, br_f c1 ⟨vi, br_t c2 (nm_r (nI_1 i) (hy post h))⟩⟩)⟩
    · have hT2 : sc_T sz (i + 1) ops args := fun a ha ta => by
        by_cases e : a = i
        · exact absurd (e ▸ ta) t
        · exact hT a (by omega) ta
      rcases ih (i + 1) (by omega) hT2 with ⟨g, hx, hy⟩ | ⟨hx, hy⟩
      · exact Or.inl ⟨g, fun post h => sx_tn post hi2 hs t (hx post h), fun post h => sy_tn post hi2 hs t (hy post h)⟩
      · exact Or.inr ⟨fun post h => sx_tn post hi2 hs t (hx post h), fun post h => sy_tn post hi2 hs t (hy post h)⟩
theorem sc_ends (hs : sz ≤ 24) (h0 : 0 < sz) (hE : sc_E sz ops) (post : Int32 → Prop) (h : post 1) : wpX_endsWell post (nI P, nI S, nI R, nI Q, nI st, nI pc, nI sz, nI d, nI rc, nI fi, nI ci, nI fo, nI co, ops, args, stk, ret, xi, xo) := by
  unfold wpX_endsWell
  have e : nI sz - 1 = nI (sz - 1) := sc_m1 h0
  refine ⟨by rw [e]; exact vp_in_nI (by omega) (by omega), nm_r (e' := ops (sz - 1)) (by rw [e, nI_clamp (by omega)]) (br_c (fun _ => h) (fun n1 => br_c (fun _ => h) (fun n2 => br_c (fun _ => h) (fun n3 => absurd hE ?_))))⟩
  rw [sc_E]
  simp [n1, n2, n3]
theorem sc_endn (hs : sz ≤ 24) (h0 : 0 < sz) (hE : ¬ sc_E sz ops) (post : Int32 → Prop) (h : post 0) : wpX_endsWell post (nI P, nI S, nI R, nI Q, nI st, nI pc, nI sz, nI d, nI rc, nI fi, nI ci, nI fo, nI co, ops, args, stk, ret, xi, xo) := by
  unfold wpX_endsWell
  have e : nI sz - 1 = nI (sz - 1) := sc_m1 h0
  exact ⟨by rw [e]; exact vp_in_nI (by omega) (by omega), nm_r (e' := ops (sz - 1)) (by rw [e, nI_clamp (by omega)]) (br_f (fun z => hE (Or.inl z)) (br_f (fun z => hE (Or.inr (Or.inl z))) (br_f (fun z => hE (Or.inr (Or.inr z))) h)))⟩
theorem i_vc_compile {k : Nat} {u : SX} {v : SY} (I : i_Rel k u v) (hk : k + 3 ≤ 1540) : wpX_compile (fun r u' => wpY_compile (fun r' v' => r' = r ∧ i_Rel (k + 3) u' v') v) u := by
  obtain ⟨st, pc, P, S, R, Q, sz, d, rc, fi, ci, fo, co, ops, args, stk, ret, xi, xo, yi, yo, rfl, rfl, I⟩ := I
  have I0 := I
  obtain ⟨hb, hRi, hRo, hO, hr⟩ := I0
  unfold wpX_compile
  by_cases c0 : st = 0
  · subst c0
    by_cases hz : sz = 0
    · subst hz
      exact br_t rfl (br_t rfl (br_t rfl (br_t rfl ⟨rfl, sc_rel _ I⟩)))
    · have z1 : ¬ nI sz = 0 := sc_ne (b := 0) (by omega) (by omega) hz
      have e : nI sz - 1 = nI (sz - 1) := sc_m1 (by omega)
      have vi : vp_in (nI sz - 1) 24 := by rw [e]; exact vp_in_nI (by omega) (by omega)
      have eo : ops (nI sz - 1).toNatClampNeg = ops (sz - 1) := by rw [e, nI_clamp (by omega)]
      refine br_t rfl (br_f z1 ?_)
      by_cases hE : sc_E sz ops
      · refine sc_ends (by omega) (by omega) hE _ (br_f (by decide) ?_)
        unfold wpX_targetsAreInside
        have Y1 : ∀ post : Int32 → SY → Prop, (∃ n52 : Nat, wY_compile_52 post (nI P) (nI S) (nI R) (nI Q) (nI sz) (nI d) (nI rc) (nI ci) (nI co) (nI 0) (nI pc) ops args stk ret yi yo n52 0) → wpY_compile post (nI P, nI S, nI R, nI Q, nI sz, nI d, nI rc, nI ci, nI co, nI 0, nI pc, ops, args, stk, ret, yi, yo) := fun post h => br_t rfl (br_f z1 ⟨vi, nm_r eo (br_c (fun _ => h) (fun n1 => br_c (fun _ => h) (fun n2 => br_c (fun _ => h) (fun n3 => absurd hE (by rw [sc_E]; simp [n1, n2, n3])))))⟩)
        rcases sc_scan (P := P) (S := S) (R := R) (Q := Q) (st := 0) (pc := pc) (d := d) (rc := rc) (fi := fi) (ci := ci) (fo := fo) (co := co) (stk := stk) (ret := ret) (xi := xi) (xo := xo) (yi := yi) (yo := yo) (sz := sz) (ops := ops) (args := args) (by omega) sz 0 (by omega) (fun i h => absurd h (Nat.not_lt_zero i)) with ⟨g, hx, hy⟩ | ⟨hx, hy⟩
        · refine ⟨sz + 1, hx _ (br_f (by decide) ?_)⟩
          unfold wpX_restart
          refine Y1 _ ⟨sz + 1, hy _ ⟨rfl, ?_⟩⟩
          exact sc_rel (st := 1) (pc := 0) (d := 0) (rc := 0) _ ⟨by omega, hRi, hRo, hO, fun _ => ⟨by omega, hE, g, sc_Q_0⟩⟩
        · exact ⟨sz + 1, hx _ (br_t rfl (Y1 _ ⟨sz + 1, hy _ ⟨rfl, sc_rel _ I⟩⟩))⟩
      · refine sc_endn (by omega) (by omega) hE _ (br_t rfl ?_)
        exact br_t rfl (br_f z1 ⟨vi, nm_r eo (br_f (fun z => hE (Or.inl z)) (br_f (fun z => hE (Or.inr (Or.inl z))) (br_f (fun z => hE (Or.inr (Or.inr z))) ⟨rfl, sc_rel _ I⟩)))⟩)
  · have n0 : ¬ nI st = 0 := sc_ne (b := 0) (by omega) (by omega) c0
    exact br_f n0 (br_f n0 ⟨rfl, sc_rel _ I⟩)
/-! count and view -/
def sc_A (v1 : Int32) (n sz d rc ci co : Nat) : Prop := (v1 = 0 ∧ n = d) ∨ (v1 = 1 ∧ n = rc) ∨ (v1 = 2 ∧ n = ci) ∨ (v1 = 3 ∧ n = co) ∨ (v1 = 4 ∧ n = sz) ∨ (v1 = 5 ∧ n = sz) ∨ n = 0
theorem sc_cnt (hb : sz ≤ 24 ∧ d ≤ 32 ∧ rc ≤ 8 ∧ ci ≤ 8 ∧ co ≤ 8) (v1 : Int32) : ∃ n, n ≤ 32 ∧ sc_A v1 n sz d rc ci co ∧ (∀ post : Int32 → Prop, post (nI n) → wpX_count post (nI P, nI S, nI R, nI Q, nI st, nI pc, nI sz, nI d, nI rc, nI fi, nI ci, nI fo, nI co, ops, args, stk, ret, xi, xo) v1) ∧ (∀ post : Int32 → Prop, post (nI n) → wpY_count post (nI P, nI S, nI R, nI Q, nI sz, nI d, nI rc, nI ci, nI co, nI st, nI pc, ops, args, stk, ret, yi, yo) v1) := by
  by_cases h0 : v1 < 0
  · have ne : ∀ x : Int32, ¬ x < 0 → ¬ v1 = x := fun x hx e => hx (e ▸ h0)
    exact ⟨0, by omega, Or.inr (Or.inr (Or.inr (Or.inr (Or.inr (Or.inr rfl))))), fun post h => br_t h0 h, fun post h => br_f (ne 0 (by decide)) (br_f (ne 1 (by decide)) (br_f (ne 2 (by decide)) (br_f (ne 3 (by decide)) (br_f (ne 4 (by decide)) (br_f (ne 5 (by decide)) h)))))⟩
  · obtain ⟨j, hj, rfl⟩ := nI_of h0
    by_cases h6 : j < 6
    · match j, h6 with
      | 0, _ => exact ⟨d, by omega, Or.inl ⟨rfl, rfl⟩, fun post h => br_f (by decide) (br_f (by decide) (br_t rfl h)), fun post h => br_t rfl h⟩
      | 1, _ => exact ⟨rc, by omega, Or.inr (Or.inl ⟨rfl, rfl⟩), fun post h => br_f (by decide) (br_f (by decide) (br_f (by decide) (br_t rfl h))), fun post h => br_f (by decide) (br_t rfl h)⟩
      | 2, _ => exact ⟨ci, by omega, Or.inr (Or.inr (Or.inl ⟨rfl, rfl⟩)), fun post h => br_f (by decide) (br_f (by decide) (br_f (by decide) (br_f (by decide) (br_t rfl h)))), fun post h => br_f (by decide) (br_f (by decide) (br_t rfl h))⟩
      | 3, _ => exact ⟨co, by omega, Or.inr (Or.inr (Or.inr (Or.inl ⟨rfl, rfl⟩))), fun post h => br_f (by decide) (br_f (by decide) (br_f (by decide) (br_f (by decide) (br_f (by decide) (br_t rfl h))))), fun post h => br_f (by decide) (br_f (by decide) (br_f (by decide) (br_t rfl h)))⟩
      | 4, _ => exact ⟨sz, by omega, Or.inr (Or.inr (Or.inr (Or.inr (Or.inl ⟨rfl, rfl⟩)))), fun post h => br_f (by decide) (br_f (by decide) (br_f (by decide) (br_f (by decide) (br_f (by decide) (br_f (by decide) (br_t rfl h)))))), fun post h => br_f (by decide) (br_f (by decide) (br_f (by decide) (br_f (by decide) (br_t rfl h))))⟩
      | 5, _ => exact ⟨sz, by omega, Or.inr (Or.inr (Or.inr (Or.inr (Or.inr (Or.inl ⟨rfl, rfl⟩))))), fun post h => br_f (by decide) (br_f (by decide) (br_f (by decide) (br_f (by decide) (br_f (by decide) (br_f (by decide) (br_f (by decide) (br_t rfl h))))))), fun post h => br_f (by decide) (br_f (by decide) (br_f (by decide) (br_f (by decide) (br_f (by decide) (br_t rfl h)))))⟩
    · have h5 : (5 : Int32) < nI j := nI_lt (a := 5) (by omega) hj
      have ne : ∀ x : Nat, x < 6 → ¬ nI j = nI x := fun x hx => sc_ne hj (by omega) (by omega)
      exact ⟨0, by omega, Or.inr (Or.inr (Or.inr (Or.inr (Or.inr (Or.inr rfl))))), fun post h => br_f h0 (br_t h5 h), fun post h => br_f (ne 0 (by decide)) (br_f (ne 1 (by decide)) (br_f (ne 2 (by decide)) (br_f (ne 3 (by decide)) (br_f (ne 4 (by decide)) (br_f (ne 5 (by decide)) h)))))⟩
theorem i_vc_count {k : Nat} {u : SX} {v : SY} (I : i_Rel k u v) (hk : k + 3 ≤ 1540) (v1 : Int32) : wpX_count (fun r => wpY_count (fun r' => r' = r ∧ i_Rel (k + 3) u v) v v1) u v1 := by
  obtain ⟨st, pc, P, S, R, Q, sz, d, rc, fi, ci, fo, co, ops, args, stk, ret, xi, xo, yi, yo, rfl, rfl, I⟩ := I
  have I0 := I
  obtain ⟨hb, hRi, hRo, hO, hr⟩ := I0
  obtain ⟨n, _, _, hx, hy⟩ := sc_cnt (sz := sz) (d := d) (rc := rc) (ci := ci) (co := co) (by omega) v1
  refine hx _ ?_
  refine hy _ ?_
  exact ⟨rfl, sc_rel _ I⟩
theorem i_vc_view {k : Nat} {u : SX} {v : SY} (I : i_Rel k u v) (hk : k + 3 ≤ 1540) (v1 : Int32) (v2 : Int32) : wpX_view (fun r => wpY_view (fun r' => r' = r ∧ i_Rel (k + 3) u v) v v1 v2) u v1 v2 := by
  obtain ⟨st, pc, P, S, R, Q, sz, d, rc, fi, ci, fo, co, ops, args, stk, ret, xi, xo, yi, yo, rfl, rfl, I⟩ := I
  have I0 := I
  obtain ⟨hb, hRi, hRo, hO, hr⟩ := I0
  have F := sc_rel (stk := stk) (k + 3) I
  obtain ⟨n, hn, hA, hx, hy⟩ := sc_cnt (P := P) (S := S) (R := R) (Q := Q) (st := st) (pc := pc) (fi := fi) (fo := fo) (ops := ops) (args := args) (stk := stk) (ret := ret) (xi := xi) (xo := xo) (yi := yi) (yo := yo) (sz := sz) (d := d) (rc := rc) (ci := ci) (co := co) (by omega) v1
  have Y1 : ∀ post : Int32 → Prop, ((v2 < 0 → post 0) ∧ (¬ v2 < 0 → ((v2 < nI n → ((v1 = 0 → (vp_in ((nI d - 1) - v2) 32 ∧ post (stk ((nI d - 1) - v2).toNatClampNeg))) ∧ (¬ v1 = 0 → ((v1 = 1 → (vp_in ((nI rc - 1) - v2) 8 ∧ post (ret ((nI rc - 1) - v2).toNatClampNeg))) ∧ (¬ v1 = 1 → ((v1 = 2 → (vp_in v2 8 ∧ post (yi v2.toNatClampNeg))) ∧ (¬ v1 = 2 → ((v1 = 3 → (vp_in v2 8 ∧ post (yo v2.toNatClampNeg))) ∧ (¬ v1 = 3 → ((v1 = 4 → (vp_in v2 24 ∧ post (ops v2.toNatClampNeg))) ∧ (¬ v1 = 4 → (vp_in v2 24 ∧ post (args v2.toNatClampNeg))))))))))))) ∧ (¬ v2 < nI n → post 0)))) → wpY_view post (nI P, nI S, nI R, nI Q, nI sz, nI d, nI rc, nI ci, nI co, nI st, nI pc, ops, args, stk, ret, yi, yo) v1 v2 := fun post h => by
    unfold wpY_view
    exact hy _ h
  unfold wpX_view
  by_cases h0 : v2 < 0
  · exact br_t h0 (Y1 _ (br_t h0 ⟨rfl, F⟩))
  · obtain ⟨i, hi, rfl⟩ := nI_of h0
    refine br_f h0 ?_
    refine hx _ ?_
    by_cases hin : i < n
    · have l : nI i < nI n := nI_lt hin (by omega)
      have ci' : (nI i).toNatClampNeg = i := nI_clamp hi
      refine br_t l ?_
      rcases hA with ⟨rfl, rfl⟩ | ⟨rfl, rfl⟩ | ⟨rfl, rfl⟩ | ⟨rfl, rfl⟩ | ⟨rfl, rfl⟩ | ⟨rfl, rfl⟩ | rfl
      · have e : (nI n - 1) - nI i = nI (n - 1 - i) := by rw [sc_m1 (by omega), pk_sub (by omega)]
        have vi : vp_in ((nI n - 1) - nI i) 32 := by rw [e]; exact vp_in_nI (by omega) (by omega)
        exact br_f (by decide) (br_f (by decide) (br_t rfl ⟨vi, Y1 _ (br_f h0 (br_t l (br_t rfl ⟨vi, rfl, F⟩)))⟩))
      · have e : (nI n - 1) - nI i = nI (n - 1 - i) := by rw [sc_m1 (by omega), pk_sub (by omega)]
        have vi : vp_in ((nI n - 1) - nI i) 8 := by rw [e]; exact vp_in_nI (by omega) (by omega)
        exact br_f (by decide) (br_f (by decide) (br_f (by decide) (br_t rfl ⟨vi, Y1 _ (br_f h0 (br_t l (br_f (by decide) (br_t rfl ⟨vi, rfl, F⟩))))⟩)))
      · refine br_f (by decide) (br_f (by decide) (br_f (by decide) (br_f (by decide) (br_t rfl ?_))))
        refine sx_ring _ (by omega) ?_
        refine ⟨vp_in_nI (Nat.mod_lt _ (by decide)) (by omega), ?_⟩
        have er : xi (nI ((fi + i) % 8)).toNatClampNeg = yi (nI i).toNatClampNeg := by rw [ci', nI_clamp (by omega)]; exact (hRi i hin).symm
        rw [er]
        exact Y1 _ (br_f h0 (br_t l (br_f (by decide) (br_f (by decide) (br_t rfl ⟨vp_in_nI (by omega) (by omega), rfl, F⟩)))))
      · refine br_f (by decide) (br_f (by decide) (br_f (by decide) (br_f (by decide) (br_f (by decide) (br_t rfl ?_)))))
        refine sx_ring _ (by omega) ?_
        refine ⟨vp_in_nI (Nat.mod_lt _ (by decide)) (by omega), ?_⟩
        have er : xo (nI ((fo + i) % 8)).toNatClampNeg = yo (nI i).toNatClampNeg := by rw [ci', nI_clamp (by omega)]; exact (hRo i hin).symm
        rw [er]
        exact Y1 _ (br_f h0 (br_t l (br_f (by decide) (br_f (by decide) (br_f (by decide) (br_t rfl ⟨vp_in_nI (by omega) (by omega), rfl, F⟩))))))
      · have vi : vp_in (nI i) 24 := vp_in_nI (by omega) (by omega)
        exact br_f (by decide) (br_f (by decide) (br_f (by decide) (br_f (by decide) (br_f (by decide) (br_f (by decide) (br_t rfl ⟨vi, Y1 _ (br_f h0 (br_t l (br_f (by decide) (br_f (by decide) (br_f (by decide) (br_f (by decide) (br_t rfl ⟨vi, rfl, F⟩)))))))⟩))))))
      · have vi : vp_in (nI i) 24 := vp_in_nI (by omega) (by omega)
        exact br_f (by decide) (br_f (by decide) (br_f (by decide) (br_f (by decide) (br_f (by decide) (br_f (by decide) (br_f (by decide) (br_t rfl ⟨vi, Y1 _ (br_f h0 (br_t l (br_f (by decide) (br_f (by decide) (br_f (by decide) (br_f (by decide) (br_f (by decide) ⟨vi, rfl, F⟩)))))))⟩)))))))
      · exact absurd hin (Nat.not_lt_zero i)
    · have l : ¬ nI i < nI n := nI_nlt (by omega) hi
      exact br_f l (Y1 _ (br_f h0 (br_f l ⟨rfl, F⟩)))
end SCD
