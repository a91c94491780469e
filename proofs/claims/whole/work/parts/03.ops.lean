section SCO
variable {P S R Q st pc sz d rc fi ci fo co : Nat} {ops args stk ret xi xo yi yo : Nat → Int32}
/-! the reference's effect, up to its switch -/
theorem sy_eff0 (post : SY → Prop) {o a : Int32} (h : wY_effect_72 post o a 0 0 0 (nI P) (nI S) (nI R) (nI Q) (nI sz) (nI d) (nI rc) (nI ci) (nI co) (nI st) (nI pc) ops args stk ret yi yo) : wpY_effect post (nI P, nI S, nI R, nI Q, nI sz, nI d, nI rc, nI ci, nI co, nI st, nI pc, ops, args, stk, ret, yi, yo) o a 0 := by
  unfold wpY_effect
  refine nm_r (e' := nI d) (Int32.sub_zero _) (br_t (by decide) ?_)
  unfold wY_effect_28
  refine br_t (by decide) ?_
  unfold wY_effect_50
  exact br_t (by decide) h
theorem sy_eff1 (post : SY → Prop) {o a : Int32} (hd : d < 32) (h : wY_effect_72 post o a (stk d) 0 0 (nI P) (nI S) (nI R) (nI Q) (nI sz) (nI d) (nI rc) (nI ci) (nI co) (nI st) (nI pc) ops args stk ret yi yo) : wpY_effect post (nI P, nI S, nI R, nI Q, nI sz, nI (d + 1), nI rc, nI ci, nI co, nI st, nI pc, ops, args, stk, ret, yi, yo) o a 1 := by
  unfold wpY_effect
  refine nm_r (nI_pred d) (br_f (by decide) ⟨vp_in_nI hd (by omega), ?_⟩)
  rw [nI_clamp (n := d) (by omega)]
  unfold wY_effect_28
  refine br_t (by decide) ?_
  unfold wY_effect_50
  exact br_t (by decide) h
theorem sy_eff2 (post : SY → Prop) {o a : Int32} (hd : d + 1 < 32) (h : wY_effect_72 post o a (stk d) (stk (d + 1)) 0 (nI P) (nI S) (nI R) (nI Q) (nI sz) (nI d) (nI rc) (nI ci) (nI co) (nI st) (nI pc) ops args stk ret yi yo) : wpY_effect post (nI P, nI S, nI R, nI Q, nI sz, nI (d + 2), nI rc, nI ci, nI co, nI st, nI pc, ops, args, stk, ret, yi, yo) o a 2 := by
  unfold wpY_effect
  refine nm_r (sc_s2 d) (br_f (by decide) ⟨vp_in_nI (by omega) (by omega), ?_⟩)
  rw [nI_clamp (n := d) (by omega)]
  unfold wY_effect_28
  refine br_f (by decide) ?_
  rw [nI_1 d, nI_clamp (n := d + 1) (by omega)]
  refine ⟨vp_in_nI (by omega) (by omega), ?_⟩
  unfold wY_effect_50
  exact br_t (by decide) h
theorem sy_eff3 (post : SY → Prop) {o a : Int32} (hd : d + 2 < 32) (h : wY_effect_72 post o a (stk d) (stk (d + 1)) (stk (d + 2)) (nI P) (nI S) (nI R) (nI Q) (nI sz) (nI d) (nI rc) (nI ci) (nI co) (nI st) (nI pc) ops args stk ret yi yo) : wpY_effect post (nI P, nI S, nI R, nI Q, nI sz, nI (d + 3), nI rc, nI ci, nI co, nI st, nI pc, ops, args, stk, ret, yi, yo) o a 3 := by
  unfold wpY_effect
  refine nm_r (sc_s3 d) (br_f (by decide) ⟨vp_in_nI (by omega) (by omega), ?_⟩)
  rw [nI_clamp (n := d) (by omega)]
  unfold wY_effect_28
  refine br_f (by decide) ?_
  rw [nI_1 d, nI_clamp (n := d + 1) (by omega)]
  refine ⟨vp_in_nI (by omega) (by omega), ?_⟩
  unfold wY_effect_50
  refine br_f (by decide) ?_
  rw [sc_p2 d, nI_clamp (n := d + 2) (by omega)]
  exact ⟨vp_in_nI (by omega) (by omega), h⟩
theorem sy_sh (post : SY → Prop) (x7 : Int32) (y0 : Nat → Int32) {c : Nat} (hc : c + 1 ≤ 8) (h : post (nI P, nI S, nI R, nI Q, nI sz, nI d, nI rc, nI c, nI co, nI st, x7, ops, args, stk, ret, sc_sh y0 c, yo)) : ∀ m i, i + m = c → wY_effect_393 post x7 (nI P) (nI S) (nI R) (nI Q) (nI sz) (nI d) (nI rc) (nI (c + 1)) (nI co) (nI st) (nI pc) (m + 1) (nI (i + 1)) ops args stk ret (sc_sh y0 i) yo := by
  intro m
  induction m with
  | zero =>
    intro i hi
    obtain rfl : i = c := by omega
    exact br_t (nI_le (Nat.le_refl _) (by omega)) (nm_r (nI_pred i) h)
  | succ m ih =>
    intro i hi
    exact br_f (nI_ge (by omega) (by omega)) ⟨vp_in_nI (by omega) (by omega), by rw [nI_pred i]; exact vp_in_nI (by omega) (by omega), nm_r (e' := sc_sh y0 (i + 1)) (by rw [nI_pred i, nI_clamp (n := i) (by omega), nI_clamp (n := i + 1) (by omega)]; exact sc_sh_s y0 i) (nm_r (nI_1 (i + 1)) (ih (i + 1) (by omega)))⟩
theorem sy_tk (post : Int32 → SY → Prop) (x1 : Int32) (y0 : Nat → Int32) {c : Nat} (hc : c + 1 ≤ 8) (h : post x1 (nI P, nI S, nI R, nI Q, nI sz, nI d, nI rc, nI ci, nI c, nI st, nI pc, ops, args, stk, ret, yi, sc_sh y0 c)) : ∀ m i, i + m = c → wY_take_18 post x1 (nI P) (nI S) (nI R) (nI Q) (nI sz) (nI d) (nI rc) (nI ci) (nI (c + 1)) (nI st) (nI pc) (m + 1) (nI (i + 1)) ops args stk ret yi (sc_sh y0 i) := by
  intro m
  induction m with
  | zero =>
    intro i hi
    obtain rfl : i = c := by omega
    exact br_t (nI_le (Nat.le_refl _) (by omega)) (nm_r (nI_pred i) h)
  | succ m ih =>
    intro i hi
    exact br_f (nI_ge (by omega) (by omega)) ⟨vp_in_nI (by omega) (by omega), by rw [nI_pred i]; exact vp_in_nI (by omega) (by omega), nm_r (e' := sc_sh y0 (i + 1)) (by rw [nI_pred i, nI_clamp (n := i) (by omega), nI_clamp (n := i + 1) (by omega)]; exact sc_sh_s y0 i) (nm_r (nI_1 (i + 1)) (ih (i + 1) (by omega)))⟩
theorem sx_o1 (post : Int32 → SX → Prop) (hpc : pc < 24) (hop : ops pc = nI 1) (hb : S ≤ 32 ∧ R ≤ 8 ∧ Q ≤ 8 ∧ d ≤ S ∧ rc ≤ R ∧ ci ≤ Q ∧ co ≤ Q) (hS : d + 1 ≤ S) (hh : sc_hin 1 d S rc R ci co Q = 1) (h : post 1 (nI P, nI S, nI R, nI Q, nI st, nI (pc + 1), nI sz, nI (d + 1), nI rc, nI fi, nI ci, nI fo, nI co, ops, args, upd stk d (args pc), ret, xi, xo)) : wpX_executeOne post (nI P, nI S, nI R, nI Q, nI st, nI pc, nI sz, nI d, nI rc, nI fi, nI ci, nI fo, nI co, ops, args, stk, ret, xi, xo) := by
  have cp : (nI pc).toNatClampNeg = pc := nI_clamp (by omega)
  unfold wpX_executeOne
  refine ⟨vp_in_nI hpc (by omega), nm_r (e' := (1 : Int32)) (by rw [cp]; exact hop) ⟨vp_in_nI hpc (by omega), nm_r (e' := args pc) (by rw [cp]) ?_⟩⟩
  refine sx_hin (o := 1) _ (by decide) hb (fun k ek => ?_)
  rw [hh] at ek
  subst ek
  refine br_t rfl (br_f (by decide) (br_t (by decide) (br_t (by decide) (br_t (by decide) ?_))))
  unfold wpX_arrange
  refine br_t rfl ?_
  refine sx_push (d := d) _ (by omega) ?_
  unfold wX_executeOne_110
  exact nm_r (nI_1 pc) h
theorem sy_o1 (post : Int32 → SY → Prop) (hpc : pc < 24) (hS2 : S ≤ 32) (hD : d ≤ S) (hS : d + 1 ≤ S) (h : post 1 (nI P, nI S, nI R, nI Q, nI sz, nI (d + 1), nI rc, nI ci, nI co, nI st, nI (pc + 1), ops, args, upd stk d (args pc), ret, yi, yo)) : wY_step_138 post 1 0 (nI P) (nI S) (nI R) (nI Q) (nI sz) (nI d) (nI rc) (nI ci) (nI co) (nI st) (nI pc) ops args stk ret yi yo := by
  unfold wY_step_138
  refine ⟨vp_in_nI hpc (by omega), ?_⟩
  rw [nI_clamp (n := pc) (by omega)]
  refine sy_eff0 _ ?_
  unfold wY_effect_72
  refine nm_r (nI_1 pc) (br_f (by decide) (br_f (by decide) (br_f (by decide) (br_t rfl ?_))))
  refine sy_push (d := d) _ (by omega) hS2 ?_
  exact br_f (by decide) h
theorem sx_o2 (post : Int32 → SX → Prop) (hpc : pc < 24) (hop : ops pc = nI 2) (hb : S ≤ 32 ∧ R ≤ 8 ∧ Q ≤ 8 ∧ d + 1 ≤ S ∧ rc ≤ R ∧ ci ≤ Q ∧ co ≤ Q) (hS : d + 2 ≤ S) (hh : sc_hin 2 (d + 1) S rc R ci co Q = 1) (h : post 1 (nI P, nI S, nI R, nI Q, nI st, nI (pc + 1), nI sz, nI (d + 2), nI rc, nI fi, nI ci, nI fo, nI co, ops, args, upd stk (d + 1) (stk d), ret, xi, xo)) : wpX_executeOne post (nI P, nI S, nI R, nI Q, nI st, nI pc, nI sz, nI (d + 1), nI rc, nI fi, nI ci, nI fo, nI co, ops, args, stk, ret, xi, xo) := by
  have cp : (nI pc).toNatClampNeg = pc := nI_clamp (by omega)
  unfold wpX_executeOne
  refine ⟨vp_in_nI hpc (by omega), nm_r (e' := (2 : Int32)) (by rw [cp]; exact hop) ⟨vp_in_nI hpc (by omega), nm_r (e' := args pc) (by rw [cp]) ?_⟩⟩
  refine sx_hin (o := 2) _ (by decide) hb (fun k ek => ?_)
  rw [hh] at ek
  subst ek
  refine br_t rfl (br_f (by decide) (br_t (by decide) (br_t (by decide) (br_t (by decide) ?_))))
  unfold wpX_arrange
  refine br_f (by decide) (br_t rfl ?_)
  rw [nI_pred d, nI_clamp (n := d) (by omega)]
  refine ⟨vp_in_nI (by omega) (by omega), ?_⟩
  refine sx_push (d := d + 1) _ (by omega) ?_
  unfold wX_executeOne_110
  exact nm_r (nI_1 pc) h
theorem sy_o2 (post : Int32 → SY → Prop) (hpc : pc < 24) (hS2 : S ≤ 32) (hD : d + 1 ≤ S) (hS : d + 2 ≤ S) (h : post 1 (nI P, nI S, nI R, nI Q, nI sz, nI (d + 2), nI rc, nI ci, nI co, nI st, nI (pc + 1), ops, args, upd (upd stk d (stk d)) (d + 1) (stk d), ret, yi, yo)) : wY_step_138 post 2 1 (nI P) (nI S) (nI R) (nI Q) (nI sz) (nI (d + 1)) (nI rc) (nI ci) (nI co) (nI st) (nI pc) ops args stk ret yi yo := by
  unfold wY_step_138
  refine ⟨vp_in_nI hpc (by omega), ?_⟩
  rw [nI_clamp (n := pc) (by omega)]
  refine sy_eff1 _ (by omega) ?_
  unfold wY_effect_72
  refine nm_r (nI_1 pc) (br_f (by decide) (br_f (by decide) (br_f (by decide) (br_f (by decide) (br_t rfl ?_)))))
  refine sy_push (d := d) _ (by omega) hS2 ?_
  refine sy_push (d := d + 1) _ (by omega) hS2 ?_
  exact br_f (by decide) h
theorem sx_o3 (post : Int32 → SX → Prop) (hpc : pc < 24) (hop : ops pc = nI 3) (hb : S ≤ 32 ∧ R ≤ 8 ∧ Q ≤ 8 ∧ d + 1 ≤ S ∧ rc ≤ R ∧ ci ≤ Q ∧ co ≤ Q) (hS : d ≤ S) (hh : sc_hin 3 (d + 1) S rc R ci co Q = 1) (h : post 1 (nI P, nI S, nI R, nI Q, nI st, nI (pc + 1), nI sz, nI d, nI rc, nI fi, nI ci, nI fo, nI co, ops, args, stk, ret, xi, xo)) : wpX_executeOne post (nI P, nI S, nI R, nI Q, nI st, nI pc, nI sz, nI (d + 1), nI rc, nI fi, nI ci, nI fo, nI co, ops, args, stk, ret, xi, xo) := by
  have cp : (nI pc).toNatClampNeg = pc := nI_clamp (by omega)
  unfold wpX_executeOne
  refine ⟨vp_in_nI hpc (by omega), nm_r (e' := (3 : Int32)) (by rw [cp]; exact hop) ⟨vp_in_nI hpc (by omega), nm_r (e' := args pc) (by rw [cp]) ?_⟩⟩
  refine sx_hin (o := 3) _ (by decide) hb (fun k ek => ?_)
  rw [hh] at ek
  subst ek
  refine br_t rfl (br_f (by decide) (br_t (by decide) (br_t (by decide) (br_t (by decide) ?_))))
  unfold wpX_arrange
  refine br_f (by decide) (br_f (by decide) (br_t rfl ?_))
  refine sx_pop (d := d) _ (by omega) ?_
  unfold wX_executeOne_110
  exact nm_r (nI_1 pc) h
theorem sy_o3 (post : Int32 → SY → Prop) (hpc : pc < 24) (hS2 : S ≤ 32) (hD : d + 1 ≤ S) (hS : d ≤ S) (h : post 1 (nI P, nI S, nI R, nI Q, nI sz, nI d, nI rc, nI ci, nI co, nI st, nI (pc + 1), ops, args, stk, ret, yi, yo)) : wY_step_138 post 3 1 (nI P) (nI S) (nI R) (nI Q) (nI sz) (nI (d + 1)) (nI rc) (nI ci) (nI co) (nI st) (nI pc) ops args stk ret yi yo := by
  unfold wY_step_138
  refine ⟨vp_in_nI hpc (by omega), ?_⟩
  rw [nI_clamp (n := pc) (by omega)]
  refine sy_eff1 _ (by omega) ?_
  unfold wY_effect_72
  refine nm_r (nI_1 pc) (br_f (by decide) (br_f (by decide) (br_f (by decide) (br_f (by decide) (br_f (by decide) (br_t rfl ?_))))))
  exact br_f (by decide) h
theorem sx_o4 (post : Int32 → SX → Prop) (hpc : pc < 24) (hop : ops pc = nI 4) (hb : S ≤ 32 ∧ R ≤ 8 ∧ Q ≤ 8 ∧ d + 2 ≤ S ∧ rc ≤ R ∧ ci ≤ Q ∧ co ≤ Q) (hS : d + 2 ≤ S) (hh : sc_hin 4 (d + 2) S rc R ci co Q = 1) (h : post 1 (nI P, nI S, nI R, nI Q, nI st, nI (pc + 1), nI sz, nI (d + 2), nI rc, nI fi, nI ci, nI fo, nI co, ops, args, upd (upd stk d (stk (d + 1))) (d + 1) (stk d), ret, xi, xo)) : wpX_executeOne post (nI P, nI S, nI R, nI Q, nI st, nI pc, nI sz, nI (d + 2), nI rc, nI fi, nI ci, nI fo, nI co, ops, args, stk, ret, xi, xo) := by
  have cp : (nI pc).toNatClampNeg = pc := nI_clamp (by omega)
  unfold wpX_executeOne
  refine ⟨vp_in_nI hpc (by omega), nm_r (e' := (4 : Int32)) (by rw [cp]; exact hop) ⟨vp_in_nI hpc (by omega), nm_r (e' := args pc) (by rw [cp]) ?_⟩⟩
  refine sx_hin (o := 4) _ (by decide) hb (fun k ek => ?_)
  rw [hh] at ek
  subst ek
  refine br_t rfl (br_f (by decide) (br_t (by decide) (br_t (by decide) (br_t (by decide) ?_))))
  unfold wpX_arrange
  refine br_f (by decide) (br_f (by decide) (br_f (by decide) (br_f (by decide) ?_)))
  unfold wpX_arrangePair
  refine sx_pop (d := d + 1) _ (by omega) ?_
  refine sx_pop (d := d) _ (by omega) ?_
  refine br_f (by decide) (br_f (by decide) (br_t rfl ?_))
  refine sx_push (d := d) _ (by omega) ?_
  refine sx_push (d := d + 1) _ (by omega) ?_
  unfold wX_executeOne_110
  exact nm_r (nI_1 pc) h
theorem sy_o4 (post : Int32 → SY → Prop) (hpc : pc < 24) (hS2 : S ≤ 32) (hD : d + 2 ≤ S) (hS : d + 2 ≤ S) (h : post 1 (nI P, nI S, nI R, nI Q, nI sz, nI (d + 2), nI rc, nI ci, nI co, nI st, nI (pc + 1), ops, args, upd (upd stk d (stk (d + 1))) (d + 1) (stk d), ret, yi, yo)) : wY_step_138 post 4 2 (nI P) (nI S) (nI R) (nI Q) (nI sz) (nI (d + 2)) (nI rc) (nI ci) (nI co) (nI st) (nI pc) ops args stk ret yi yo := by
  unfold wY_step_138
  refine ⟨vp_in_nI hpc (by omega), ?_⟩
  rw [nI_clamp (n := pc) (by omega)]
  refine sy_eff2 _ (by omega) ?_
  unfold wY_effect_72
  refine nm_r (nI_1 pc) (br_f (by decide) (br_f (by decide) (br_f (by decide) (br_f (by decide) (br_f (by decide) (br_f (by decide) (br_t rfl ?_)))))))
  refine sy_push (d := d) _ (by omega) hS2 ?_
  refine sy_push (d := d + 1) _ (by omega) hS2 ?_
  exact br_f (by decide) h
theorem sx_o5 (post : Int32 → SX → Prop) (hpc : pc < 24) (hop : ops pc = nI 5) (hb : S ≤ 32 ∧ R ≤ 8 ∧ Q ≤ 8 ∧ d + 2 ≤ S ∧ rc ≤ R ∧ ci ≤ Q ∧ co ≤ Q) (hS : d + 3 ≤ S) (hh : sc_hin 5 (d + 2) S rc R ci co Q = 1) (h : post 1 (nI P, nI S, nI R, nI Q, nI st, nI (pc + 1), nI sz, nI (d + 3), nI rc, nI fi, nI ci, nI fo, nI co, ops, args, upd (upd (upd stk d (stk d)) (d + 1) (stk (d + 1))) (d + 2) (stk d), ret, xi, xo)) : wpX_executeOne post (nI P, nI S, nI R, nI Q, nI st, nI pc, nI sz, nI (d + 2), nI rc, nI fi, nI ci, nI fo, nI co, ops, args, stk, ret, xi, xo) := by
  have cp : (nI pc).toNatClampNeg = pc := nI_clamp (by omega)
  unfold wpX_executeOne
  refine ⟨vp_in_nI hpc (by omega), nm_r (e' := (5 : Int32)) (by rw [cp]; exact hop) ⟨vp_in_nI hpc (by omega), nm_r (e' := args pc) (by rw [cp]) ?_⟩⟩
  refine sx_hin (o := 5) _ (by decide) hb (fun k ek => ?_)
  rw [hh] at ek
  subst ek
  refine br_t rfl (br_f (by decide) (br_t (by decide) (br_t (by decide) (br_t (by decide) ?_))))
  unfold wpX_arrange
  refine br_f (by decide) (br_f (by decide) (br_f (by decide) (br_f (by decide) ?_)))
  unfold wpX_arrangePair
  refine sx_pop (d := d + 1) _ (by omega) ?_
  refine sx_pop (d := d) _ (by omega) ?_
  refine br_f (by decide) (br_f (by decide) (br_f (by decide) (br_t rfl ?_)))
  refine sx_push (d := d) _ (by omega) ?_
  refine sx_push (d := d + 1) _ (by omega) ?_
  refine sx_push (d := d + 2) _ (by omega) ?_
  unfold wX_executeOne_110
  exact nm_r (nI_1 pc) h
theorem sy_o5 (post : Int32 → SY → Prop) (hpc : pc < 24) (hS2 : S ≤ 32) (hD : d + 2 ≤ S) (hS : d + 3 ≤ S) (h : post 1 (nI P, nI S, nI R, nI Q, nI sz, nI (d + 3), nI rc, nI ci, nI co, nI st, nI (pc + 1), ops, args, upd (upd (upd stk d (stk d)) (d + 1) (stk (d + 1))) (d + 2) (stk d), ret, yi, yo)) : wY_step_138 post 5 2 (nI P) (nI S) (nI R) (nI Q) (nI sz) (nI (d + 2)) (nI rc) (nI ci) (nI co) (nI st) (nI pc) ops args stk ret yi yo := by
  unfold wY_step_138
  refine ⟨vp_in_nI hpc (by omega), ?_⟩
  rw [nI_clamp (n := pc) (by omega)]
  refine sy_eff2 _ (by omega) ?_
  unfold wY_effect_72
  refine nm_r (nI_1 pc) (br_f (by decide) (br_f (by decide) (br_f (by decide) (br_f (by decide) (br_f (by decide) (br_f (by decide) (br_f (by decide) (br_t rfl ?_))))))))
  refine sy_push (d := d) _ (by omega) hS2 ?_
  refine sy_push (d := d + 1) _ (by omega) hS2 ?_
  refine sy_push (d := d + 2) _ (by omega) hS2 ?_
  exact br_f (by decide) h
theorem sx_o6 (post : Int32 → SX → Prop) (hpc : pc < 24) (hop : ops pc = nI 6) (hb : S ≤ 32 ∧ R ≤ 8 ∧ Q ≤ 8 ∧ d + 3 ≤ S ∧ rc ≤ R ∧ ci ≤ Q ∧ co ≤ Q) (hS : d + 3 ≤ S) (hh : sc_hin 6 (d + 3) S rc R ci co Q = 1) (h : post 1 (nI P, nI S, nI R, nI Q, nI st, nI (pc + 1), nI sz, nI (d + 3), nI rc, nI fi, nI ci, nI fo, nI co, ops, args, upd (upd (upd stk d (stk (d + 1))) (d + 1) (stk (d + 2))) (d + 2) (stk d), ret, xi, xo)) : wpX_executeOne post (nI P, nI S, nI R, nI Q, nI st, nI pc, nI sz, nI (d + 3), nI rc, nI fi, nI ci, nI fo, nI co, ops, args, stk, ret, xi, xo) := by
  have cp : (nI pc).toNatClampNeg = pc := nI_clamp (by omega)
  unfold wpX_executeOne
  refine ⟨vp_in_nI hpc (by omega), nm_r (e' := (6 : Int32)) (by rw [cp]; exact hop) ⟨vp_in_nI hpc (by omega), nm_r (e' := args pc) (by rw [cp]) ?_⟩⟩
  refine sx_hin (o := 6) _ (by decide) hb (fun k ek => ?_)
  rw [hh] at ek
  subst ek
  refine br_t rfl (br_f (by decide) (br_t (by decide) (br_t (by decide) (br_t (by decide) ?_))))
  unfold wpX_arrange
  refine br_f (by decide) (br_f (by decide) (br_f (by decide) (br_t rfl ?_)))
  unfold wpX_rotate
  refine sx_pop (d := d + 2) _ (by omega) ?_
  refine sx_pop (d := d + 1) _ (by omega) ?_
  refine sx_pop (d := d) _ (by omega) ?_
  refine sx_push (d := d) _ (by omega) ?_
  refine sx_push (d := d + 1) _ (by omega) ?_
  refine sx_push (d := d + 2) _ (by omega) ?_
  unfold wX_executeOne_110
  exact nm_r (nI_1 pc) h
theorem sy_o6 (post : Int32 → SY → Prop) (hpc : pc < 24) (hS2 : S ≤ 32) (hD : d + 3 ≤ S) (hS : d + 3 ≤ S) (h : post 1 (nI P, nI S, nI R, nI Q, nI sz, nI (d + 3), nI rc, nI ci, nI co, nI st, nI (pc + 1), ops, args, upd (upd (upd stk d (stk (d + 1))) (d + 1) (stk (d + 2))) (d + 2) (stk d), ret, yi, yo)) : wY_step_138 post 6 3 (nI P) (nI S) (nI R) (nI Q) (nI sz) (nI (d + 3)) (nI rc) (nI ci) (nI co) (nI st) (nI pc) ops args stk ret yi yo := by
  unfold wY_step_138
  refine ⟨vp_in_nI hpc (by omega), ?_⟩
  rw [nI_clamp (n := pc) (by omega)]
  refine sy_eff3 _ (by omega) ?_
  unfold wY_effect_72
  refine nm_r (nI_1 pc) (br_f (by decide) (br_f (by decide) (br_f (by decide) (br_f (by decide) (br_f (by decide) (br_f (by decide) (br_f (by decide) (br_f (by decide) (br_t rfl ?_)))))))))
  refine sy_push (d := d) _ (by omega) hS2 ?_
  refine sy_push (d := d + 1) _ (by omega) hS2 ?_
  refine sy_push (d := d + 2) _ (by omega) hS2 ?_
  exact br_f (by decide) h
theorem sx_o7 (post : Int32 → SX → Prop) (hpc : pc < 24) (hop : ops pc = nI 7) (hb : S ≤ 32 ∧ R ≤ 8 ∧ Q ≤ 8 ∧ d + 2 ≤ S ∧ rc ≤ R ∧ ci ≤ Q ∧ co ≤ Q) (hS : d + 1 ≤ S) (hh : sc_hin 7 (d + 2) S rc R ci co Q = 1) (h : post 1 (nI P, nI S, nI R, nI Q, nI st, nI (pc + 1), nI sz, nI (d + 1), nI rc, nI fi, nI ci, nI fo, nI co, ops, args, upd stk d (stk (d + 1)), ret, xi, xo)) : wpX_executeOne post (nI P, nI S, nI R, nI Q, nI st, nI pc, nI sz, nI (d + 2), nI rc, nI fi, nI ci, nI fo, nI co, ops, args, stk, ret, xi, xo) := by
  have cp : (nI pc).toNatClampNeg = pc := nI_clamp (by omega)
  unfold wpX_executeOne
  refine ⟨vp_in_nI hpc (by omega), nm_r (e' := (7 : Int32)) (by rw [cp]; exact hop) ⟨vp_in_nI hpc (by omega), nm_r (e' := args pc) (by rw [cp]) ?_⟩⟩
  refine sx_hin (o := 7) _ (by decide) hb (fun k ek => ?_)
  rw [hh] at ek
  subst ek
  refine br_t rfl (br_f (by decide) (br_t (by decide) (br_t (by decide) (br_t (by decide) ?_))))
  unfold wpX_arrange
  refine br_f (by decide) (br_f (by decide) (br_f (by decide) (br_f (by decide) ?_)))
  unfold wpX_arrangePair
  refine sx_pop (d := d + 1) _ (by omega) ?_
  refine sx_pop (d := d) _ (by omega) ?_
  refine br_f (by decide) (br_f (by decide) (br_f (by decide) (br_f (by decide) (br_f (by decide) (br_t rfl ?_)))))
  unfold wX_arrangePair_93
  refine sx_push (d := d) _ (by omega) ?_
  unfold wX_executeOne_110
  exact nm_r (nI_1 pc) h
theorem sy_o7 (post : Int32 → SY → Prop) (hpc : pc < 24) (hS2 : S ≤ 32) (hD : d + 2 ≤ S) (hS : d + 1 ≤ S) (h : post 1 (nI P, nI S, nI R, nI Q, nI sz, nI (d + 1), nI rc, nI ci, nI co, nI st, nI (pc + 1), ops, args, upd stk d (stk (d + 1)), ret, yi, yo)) : wY_step_138 post 7 2 (nI P) (nI S) (nI R) (nI Q) (nI sz) (nI (d + 2)) (nI rc) (nI ci) (nI co) (nI st) (nI pc) ops args stk ret yi yo := by
  unfold wY_step_138
  refine ⟨vp_in_nI hpc (by omega), ?_⟩
  rw [nI_clamp (n := pc) (by omega)]
  refine sy_eff2 _ (by omega) ?_
  unfold wY_effect_72
  refine nm_r (nI_1 pc) (br_f (by decide) (br_f (by decide) (br_f (by decide) (br_f (by decide) (br_f (by decide) (br_f (by decide) (br_f (by decide) (br_f (by decide) (br_f (by decide) (br_t rfl ?_))))))))))
  refine sy_push (d := d) _ (by omega) hS2 ?_
  exact br_f (by decide) h
theorem sx_o8 (post : Int32 → SX → Prop) (hpc : pc < 24) (hop : ops pc = nI 8) (hb : S ≤ 32 ∧ R ≤ 8 ∧ Q ≤ 8 ∧ d + 2 ≤ S ∧ rc ≤ R ∧ ci ≤ Q ∧ co ≤ Q) (hS : d + 3 ≤ S) (hh : sc_hin 8 (d + 2) S rc R ci co Q = 1) (h : post 1 (nI P, nI S, nI R, nI Q, nI st, nI (pc + 1), nI sz, nI (d + 3), nI rc, nI fi, nI ci, nI fo, nI co, ops, args, upd (upd (upd stk d (stk (d + 1))) (d + 1) (stk d)) (d + 2) (stk (d + 1)), ret, xi, xo)) : wpX_executeOne post (nI P, nI S, nI R, nI Q, nI st, nI pc, nI sz, nI (d + 2), nI rc, nI fi, nI ci, nI fo, nI co, ops, args, stk, ret, xi, xo) := by
  have cp : (nI pc).toNatClampNeg = pc := nI_clamp (by omega)
  unfold wpX_executeOne
  refine ⟨vp_in_nI hpc (by omega), nm_r (e' := (8 : Int32)) (by rw [cp]; exact hop) ⟨vp_in_nI hpc (by omega), nm_r (e' := args pc) (by rw [cp]) ?_⟩⟩
  refine sx_hin (o := 8) _ (by decide) hb (fun k ek => ?_)
  rw [hh] at ek
  subst ek
  refine br_t rfl (br_f (by decide) (br_t (by decide) (br_t (by decide) (br_t (by decide) ?_))))
  unfold wpX_arrange
  refine br_f (by decide) (br_f (by decide) (br_f (by decide) (br_f (by decide) ?_)))
  unfold wpX_arrangePair
  refine sx_pop (d := d + 1) _ (by omega) ?_
  refine sx_pop (d := d) _ (by omega) ?_
  refine br_f (by decide) (br_f (by decide) (br_f (by decide) (br_f (by decide) (br_f (by decide) (br_f (by decide) (br_t rfl ?_))))))
  refine sx_push (d := d) _ (by omega) ?_
  refine sx_push (d := d + 1) _ (by omega) ?_
  refine sx_push (d := d + 2) _ (by omega) ?_
  unfold wX_executeOne_110
  exact nm_r (nI_1 pc) h
theorem sy_o8 (post : Int32 → SY → Prop) (hpc : pc < 24) (hS2 : S ≤ 32) (hD : d + 2 ≤ S) (hS : d + 3 ≤ S) (h : post 1 (nI P, nI S, nI R, nI Q, nI sz, nI (d + 3), nI rc, nI ci, nI co, nI st, nI (pc + 1), ops, args, upd (upd (upd stk d (stk (d + 1))) (d + 1) (stk d)) (d + 2) (stk (d + 1)), ret, yi, yo)) : wY_step_138 post 8 2 (nI P) (nI S) (nI R) (nI Q) (nI sz) (nI (d + 2)) (nI rc) (nI ci) (nI co) (nI st) (nI pc) ops args stk ret yi yo := by
  unfold wY_step_138
  refine ⟨vp_in_nI hpc (by omega), ?_⟩
  rw [nI_clamp (n := pc) (by omega)]
  refine sy_eff2 _ (by omega) ?_
  unfold wY_effect_72
  refine nm_r (nI_1 pc) (br_f (by decide) (br_f (by decide) (br_f (by decide) (br_f (by decide) (br_f (by decide) (br_f (by decide) (br_f (by decide) (br_f (by decide) (br_f (by decide) (br_f (by decide) (br_t rfl ?_)))))))))))
  refine sy_push (d := d) _ (by omega) hS2 ?_
  refine sy_push (d := d + 1) _ (by omega) hS2 ?_
  refine sy_push (d := d + 2) _ (by omega) hS2 ?_
  exact br_f (by decide) h
theorem sx_o9 (post : Int32 → SX → Prop) (hpc : pc < 24) (hop : ops pc = nI 9) (hb : S ≤ 32 ∧ R ≤ 8 ∧ Q ≤ 8 ∧ d + 1 ≤ S ∧ rc ≤ R ∧ ci ≤ Q ∧ co ≤ Q) (hS : d + 1 ≤ S) (hh : sc_hin 9 (d + 1) S rc R ci co Q = 1) (h : post 1 (nI P, nI S, nI R, nI Q, nI st, nI (pc + 1), nI sz, nI (d + 1), nI rc, nI fi, nI ci, nI fo, nI co, ops, args, upd stk d (stk d + args pc), ret, xi, xo)) : wpX_executeOne post (nI P, nI S, nI R, nI Q, nI st, nI pc, nI sz, nI (d + 1), nI rc, nI fi, nI ci, nI fo, nI co, ops, args, stk, ret, xi, xo) := by
  have cp : (nI pc).toNatClampNeg = pc := nI_clamp (by omega)
  unfold wpX_executeOne
  refine ⟨vp_in_nI hpc (by omega), nm_r (e' := (9 : Int32)) (by rw [cp]; exact hop) ⟨vp_in_nI hpc (by omega), nm_r (e' := args pc) (by rw [cp]) ?_⟩⟩
  refine sx_hin (o := 9) _ (by decide) hb (fun k ek => ?_)
  rw [hh] at ek
  subst ek
  refine br_t rfl (br_f (by decide) (br_t (by decide) (br_t (by decide) (br_f (by decide) ?_))))
  unfold wpX_calculate
  refine sx_pop (d := d) _ (by omega) ?_
  refine br_t rfl ?_
  refine sx_push (d := d) _ (by omega) ?_
  unfold wX_executeOne_110
  exact nm_r (nI_1 pc) h
theorem sy_o9 (post : Int32 → SY → Prop) (hpc : pc < 24) (hS2 : S ≤ 32) (hD : d + 1 ≤ S) (hS : d + 1 ≤ S) (h : post 1 (nI P, nI S, nI R, nI Q, nI sz, nI (d + 1), nI rc, nI ci, nI co, nI st, nI (pc + 1), ops, args, upd stk d (stk d + args pc), ret, yi, yo)) : wY_step_138 post 9 1 (nI P) (nI S) (nI R) (nI Q) (nI sz) (nI (d + 1)) (nI rc) (nI ci) (nI co) (nI st) (nI pc) ops args stk ret yi yo := by
  unfold wY_step_138
  refine ⟨vp_in_nI hpc (by omega), ?_⟩
  rw [nI_clamp (n := pc) (by omega)]
  refine sy_eff1 _ (by omega) ?_
  unfold wY_effect_72
  refine nm_r (nI_1 pc) (br_f (by decide) (br_f (by decide) (br_f (by decide) (br_f (by decide) (br_f (by decide) (br_f (by decide) (br_f (by decide) (br_f (by decide) (br_f (by decide) (br_f (by decide) (br_f (by decide) (br_t rfl ?_))))))))))))
  refine sy_push (d := d) _ (by omega) hS2 ?_
  exact br_f (by decide) h
theorem sx_o10 (post : Int32 → SX → Prop) (hpc : pc < 24) (hop : ops pc = nI 10) (hb : S ≤ 32 ∧ R ≤ 8 ∧ Q ≤ 8 ∧ d + 2 ≤ S ∧ rc ≤ R ∧ ci ≤ Q ∧ co ≤ Q) (hS : d + 1 ≤ S) (hh : sc_hin 10 (d + 2) S rc R ci co Q = 1) (h : post 1 (nI P, nI S, nI R, nI Q, nI st, nI (pc + 1), nI sz, nI (d + 1), nI rc, nI fi, nI ci, nI fo, nI co, ops, args, upd stk d ((stk d) + (stk (d + 1))), ret, xi, xo)) : wpX_executeOne post (nI P, nI S, nI R, nI Q, nI st, nI pc, nI sz, nI (d + 2), nI rc, nI fi, nI ci, nI fo, nI co, ops, args, stk, ret, xi, xo) := by
  have cp : (nI pc).toNatClampNeg = pc := nI_clamp (by omega)
  unfold wpX_executeOne
  refine ⟨vp_in_nI hpc (by omega), nm_r (e' := (10 : Int32)) (by rw [cp]; exact hop) ⟨vp_in_nI hpc (by omega), nm_r (e' := args pc) (by rw [cp]) ?_⟩⟩
  refine sx_hin (o := 10) _ (by decide) hb (fun k ek => ?_)
  rw [hh] at ek
  subst ek
  refine br_t rfl (br_f (by decide) (br_t (by decide) (br_t (by decide) (br_f (by decide) ?_))))
  unfold wpX_calculate
  refine sx_pop (d := d + 1) _ (by omega) ?_
  refine br_f (by decide) ?_
  refine sx_pop (d := d) _ (by omega) ?_
  unfold wpX_combine
  refine br_f (by decide) (br_f (by decide) (br_t rfl ?_))
  refine sx_push (d := d) _ (by omega) ?_
  unfold wX_executeOne_110
  exact nm_r (nI_1 pc) h
theorem sy_o10 (post : Int32 → SY → Prop) (hpc : pc < 24) (hS2 : S ≤ 32) (hD : d + 2 ≤ S) (hS : d + 1 ≤ S) (h : post 1 (nI P, nI S, nI R, nI Q, nI sz, nI (d + 1), nI rc, nI ci, nI co, nI st, nI (pc + 1), ops, args, upd stk d ((stk d) + (stk (d + 1))), ret, yi, yo)) : wY_step_138 post 10 2 (nI P) (nI S) (nI R) (nI Q) (nI sz) (nI (d + 2)) (nI rc) (nI ci) (nI co) (nI st) (nI pc) ops args stk ret yi yo := by
  unfold wY_step_138
  refine ⟨vp_in_nI hpc (by omega), ?_⟩
  rw [nI_clamp (n := pc) (by omega)]
  refine sy_eff2 _ (by omega) ?_
  unfold wY_effect_72
  refine nm_r (nI_1 pc) (br_f (by decide) (br_f (by decide) (br_f (by decide) (br_f (by decide) (br_f (by decide) (br_f (by decide) (br_f (by decide) (br_f (by decide) (br_f (by decide) (br_f (by decide) (br_f (by decide) (br_f (by decide) (br_t rfl ?_)))))))))))))
  refine sy_push (d := d) _ (by omega) hS2 ?_
  exact br_f (by decide) h
theorem sx_o11 (post : Int32 → SX → Prop) (hpc : pc < 24) (hop : ops pc = nI 11) (hb : S ≤ 32 ∧ R ≤ 8 ∧ Q ≤ 8 ∧ d + 2 ≤ S ∧ rc ≤ R ∧ ci ≤ Q ∧ co ≤ Q) (hS : d + 1 ≤ S) (hh : sc_hin 11 (d + 2) S rc R ci co Q = 1) (h : post 1 (nI P, nI S, nI R, nI Q, nI st, nI (pc + 1), nI sz, nI (d + 1), nI rc, nI fi, nI ci, nI fo, nI co, ops, args, upd stk d ((stk d) - (stk (d + 1))), ret, xi, xo)) : wpX_executeOne post (nI P, nI S, nI R, nI Q, nI st, nI pc, nI sz, nI (d + 2), nI rc, nI fi, nI ci, nI fo, nI co, ops, args, stk, ret, xi, xo) := by
  have cp : (nI pc).toNatClampNeg = pc := nI_clamp (by omega)
  unfold wpX_executeOne
  refine ⟨vp_in_nI hpc (by omega), nm_r (e' := (11 : Int32)) (by rw [cp]; exact hop) ⟨vp_in_nI hpc (by omega), nm_r (e' := args pc) (by rw [cp]) ?_⟩⟩
  refine sx_hin (o := 11) _ (by decide) hb (fun k ek => ?_)
  rw [hh] at ek
  subst ek
  refine br_t rfl (br_f (by decide) (br_t (by decide) (br_t (by decide) (br_f (by decide) ?_))))
  unfold wpX_calculate
  refine sx_pop (d := d + 1) _ (by omega) ?_
  refine br_f (by decide) ?_
  refine sx_pop (d := d) _ (by omega) ?_
  unfold wpX_combine
  refine br_f (by decide) (br_f (by decide) (br_f (by decide) (br_t rfl ?_)))
  refine sx_push (d := d) _ (by omega) ?_
  unfold wX_executeOne_110
  exact nm_r (nI_1 pc) h
theorem sy_o11 (post : Int32 → SY → Prop) (hpc : pc < 24) (hS2 : S ≤ 32) (hD : d + 2 ≤ S) (hS : d + 1 ≤ S) (h : post 1 (nI P, nI S, nI R, nI Q, nI sz, nI (d + 1), nI rc, nI ci, nI co, nI st, nI (pc + 1), ops, args, upd stk d ((stk d) - (stk (d + 1))), ret, yi, yo)) : wY_step_138 post 11 2 (nI P) (nI S) (nI R) (nI Q) (nI sz) (nI (d + 2)) (nI rc) (nI ci) (nI co) (nI st) (nI pc) ops args stk ret yi yo := by
  unfold wY_step_138
  refine ⟨vp_in_nI hpc (by omega), ?_⟩
  rw [nI_clamp (n := pc) (by omega)]
  refine sy_eff2 _ (by omega) ?_
  unfold wY_effect_72
  refine nm_r (nI_1 pc) (br_f (by decide) (br_f (by decide) (br_f (by decide) (br_f (by decide) (br_f (by decide) (br_f (by decide) (br_f (by decide) (br_f (by decide) (br_f (by decide) (br_f (by decide) (br_f (by decide) (br_f (by decide) (br_f (by decide) (br_t rfl ?_))))))))))))))
  refine sy_push (d := d) _ (by omega) hS2 ?_
  exact br_f (by decide) h
theorem sx_o12 (post : Int32 → SX → Prop) (hpc : pc < 24) (hop : ops pc = nI 12) (hb : S ≤ 32 ∧ R ≤ 8 ∧ Q ≤ 8 ∧ d + 2 ≤ S ∧ rc ≤ R ∧ ci ≤ Q ∧ co ≤ Q) (hS : d + 1 ≤ S) (hh : sc_hin 12 (d + 2) S rc R ci co Q = 1) (h : post 1 (nI P, nI S, nI R, nI Q, nI st, nI (pc + 1), nI sz, nI (d + 1), nI rc, nI fi, nI ci, nI fo, nI co, ops, args, upd stk d ((stk d) * (stk (d + 1))), ret, xi, xo)) : wpX_executeOne post (nI P, nI S, nI R, nI Q, nI st, nI pc, nI sz, nI (d + 2), nI rc, nI fi, nI ci, nI fo, nI co, ops, args, stk, ret, xi, xo) := by
  have cp : (nI pc).toNatClampNeg = pc := nI_clamp (by omega)
  unfold wpX_executeOne
  refine ⟨vp_in_nI hpc (by omega), nm_r (e' := (12 : Int32)) (by rw [cp]; exact hop) ⟨vp_in_nI hpc (by omega), nm_r (e' := args pc) (by rw [cp]) ?_⟩⟩
  refine sx_hin (o := 12) _ (by decide) hb (fun k ek => ?_)
  rw [hh] at ek
  subst ek
  refine br_t rfl (br_f (by decide) (br_t (by decide) (br_t (by decide) (br_f (by decide) ?_))))
  unfold wpX_calculate
  refine sx_pop (d := d + 1) _ (by omega) ?_
  refine br_f (by decide) ?_
  refine sx_pop (d := d) _ (by omega) ?_
  unfold wpX_combine
  refine br_f (by decide) (br_f (by decide) (br_f (by decide) (br_f (by decide) (br_t rfl ?_))))
  refine sx_push (d := d) _ (by omega) ?_
  unfold wX_executeOne_110
  exact nm_r (nI_1 pc) h
theorem sy_o12 (post : Int32 → SY → Prop) (hpc : pc < 24) (hS2 : S ≤ 32) (hD : d + 2 ≤ S) (hS : d + 1 ≤ S) (h : post 1 (nI P, nI S, nI R, nI Q, nI sz, nI (d + 1), nI rc, nI ci, nI co, nI st, nI (pc + 1), ops, args, upd stk d ((stk d) * (stk (d + 1))), ret, yi, yo)) : wY_step_138 post 12 2 (nI P) (nI S) (nI R) (nI Q) (nI sz) (nI (d + 2)) (nI rc) (nI ci) (nI co) (nI st) (nI pc) ops args stk ret yi yo := by
  unfold wY_step_138
  refine ⟨vp_in_nI hpc (by omega), ?_⟩
  rw [nI_clamp (n := pc) (by omega)]
  refine sy_eff2 _ (by omega) ?_
  unfold wY_effect_72
  refine nm_r (nI_1 pc) (br_f (by decide) (br_f (by decide) (br_f (by decide) (br_f (by decide) (br_f (by decide) (br_f (by decide) (br_f (by decide) (br_f (by decide) (br_f (by decide) (br_f (by decide) (br_f (by decide) (br_f (by decide) (br_f (by decide) (br_f (by decide) (br_t rfl ?_)))))))))))))))
  refine sy_push (d := d) _ (by omega) hS2 ?_
  exact br_f (by decide) h
theorem sx_o13 (post : Int32 → SX → Prop) (hpc : pc < 24) (hop : ops pc = nI 13) (hb : S ≤ 32 ∧ R ≤ 8 ∧ Q ≤ 8 ∧ d + 2 ≤ S ∧ rc ≤ R ∧ ci ≤ Q ∧ co ≤ Q) (hS : d + 1 ≤ S) (hh : sc_hin 13 (d + 2) S rc R ci co Q = 1) (h : post 1 (nI P, nI S, nI R, nI Q, nI st, nI (pc + 1), nI sz, nI (d + 1), nI rc, nI fi, nI ci, nI fo, nI co, ops, args, upd stk d ((stk d) ^^^ (stk (d + 1))), ret, xi, xo)) : wpX_executeOne post (nI P, nI S, nI R, nI Q, nI st, nI pc, nI sz, nI (d + 2), nI rc, nI fi, nI ci, nI fo, nI co, ops, args, stk, ret, xi, xo) := by
  have cp : (nI pc).toNatClampNeg = pc := nI_clamp (by omega)
  unfold wpX_executeOne
  refine ⟨vp_in_nI hpc (by omega), nm_r (e' := (13 : Int32)) (by rw [cp]; exact hop) ⟨vp_in_nI hpc (by omega), nm_r (e' := args pc) (by rw [cp]) ?_⟩⟩
  refine sx_hin (o := 13) _ (by decide) hb (fun k ek => ?_)
  rw [hh] at ek
  subst ek
  refine br_t rfl (br_f (by decide) (br_t (by decide) (br_t (by decide) (br_f (by decide) ?_))))
  unfold wpX_calculate
  refine sx_pop (d := d + 1) _ (by omega) ?_
  refine br_f (by decide) ?_
  refine sx_pop (d := d) _ (by omega) ?_
  unfold wpX_combine
  refine br_f (by decide) (br_f (by decide) (br_f (by decide) (br_f (by decide) (br_f (by decide) (br_t rfl ?_)))))
  refine sx_push (d := d) _ (by omega) ?_
  unfold wX_executeOne_110
  exact nm_r (nI_1 pc) h
theorem sy_o13 (post : Int32 → SY → Prop) (hpc : pc < 24) (hS2 : S ≤ 32) (hD : d + 2 ≤ S) (hS : d + 1 ≤ S) (h : post 1 (nI P, nI S, nI R, nI Q, nI sz, nI (d + 1), nI rc, nI ci, nI co, nI st, nI (pc + 1), ops, args, upd stk d ((stk d) ^^^ (stk (d + 1))), ret, yi, yo)) : wY_step_138 post 13 2 (nI P) (nI S) (nI R) (nI Q) (nI sz) (nI (d + 2)) (nI rc) (nI ci) (nI co) (nI st) (nI pc) ops args stk ret yi yo := by
  unfold wY_step_138
  refine ⟨vp_in_nI hpc (by omega), ?_⟩
  rw [nI_clamp (n := pc) (by omega)]
  refine sy_eff2 _ (by omega) ?_
  unfold wY_effect_72
  refine nm_r (nI_1 pc) (br_f (by decide) (br_f (by decide) (br_f (by decide) (br_f (by decide) (br_f (by decide) (br_f (by decide) (br_f (by decide) (br_f (by decide) (br_f (by decide) (br_f (by decide) (br_f (by decide) (br_f (by decide) (br_f (by decide) (br_f (by decide) (br_f (by decide) (br_t rfl ?_))))))))))))))))
  refine sy_push (d := d) _ (by omega) hS2 ?_
  exact br_f (by decide) h
theorem sx_o14 (post : Int32 → SX → Prop) (hpc : pc < 24) (hop : ops pc = nI 14) (hb : S ≤ 32 ∧ R ≤ 8 ∧ Q ≤ 8 ∧ d + 2 ≤ S ∧ rc ≤ R ∧ ci ≤ Q ∧ co ≤ Q) (hS : d + 1 ≤ S) (hh : sc_hin 14 (d + 2) S rc R ci co Q = 1) (h : post 1 (nI P, nI S, nI R, nI Q, nI st, nI (pc + 1), nI sz, nI (d + 1), nI rc, nI fi, nI ci, nI fo, nI co, ops, args, upd stk d (if (stk (d + 1)) ≤ (stk d) then 0 else 1), ret, xi, xo)) : wpX_executeOne post (nI P, nI S, nI R, nI Q, nI st, nI pc, nI sz, nI (d + 2), nI rc, nI fi, nI ci, nI fo, nI co, ops, args, stk, ret, xi, xo) := by
  have cp : (nI pc).toNatClampNeg = pc := nI_clamp (by omega)
  unfold wpX_executeOne
  refine ⟨vp_in_nI hpc (by omega), nm_r (e' := (14 : Int32)) (by rw [cp]; exact hop) ⟨vp_in_nI hpc (by omega), nm_r (e' := args pc) (by rw [cp]) ?_⟩⟩
  refine sx_hin (o := 14) _ (by decide) hb (fun k ek => ?_)
  rw [hh] at ek
  subst ek
  refine br_t rfl (br_f (by decide) (br_t (by decide) (br_t (by decide) (br_f (by decide) ?_))))
  unfold wpX_calculate
  refine sx_pop (d := d + 1) _ (by omega) ?_
  refine br_f (by decide) ?_
  refine sx_pop (d := d) _ (by omega) ?_
  unfold wpX_combine
  refine br_f (by decide) (br_t (by decide) (br_c (fun c => ?_) (fun c => ?_)))
  · rw [if_pos c] at h
    refine sx_push (d := d) _ (by omega) ?_
    unfold wX_executeOne_110
    exact nm_r (nI_1 pc) h
  · rw [if_neg c] at h
    refine sx_push (d := d) _ (by omega) ?_
    unfold wX_executeOne_110
    exact nm_r (nI_1 pc) h
theorem sy_o14 (post : Int32 → SY → Prop) (hpc : pc < 24) (hS2 : S ≤ 32) (hD : d + 2 ≤ S) (hS : d + 1 ≤ S) (h : post 1 (nI P, nI S, nI R, nI Q, nI sz, nI (d + 1), nI rc, nI ci, nI co, nI st, nI (pc + 1), ops, args, upd stk d (if (stk (d + 1)) ≤ (stk d) then 0 else 1), ret, yi, yo)) : wY_step_138 post 14 2 (nI P) (nI S) (nI R) (nI Q) (nI sz) (nI (d + 2)) (nI rc) (nI ci) (nI co) (nI st) (nI pc) ops args stk ret yi yo := by
  unfold wY_step_138
  refine ⟨vp_in_nI hpc (by omega), ?_⟩
  rw [nI_clamp (n := pc) (by omega)]
  refine sy_eff2 _ (by omega) ?_
  unfold wY_effect_72
  refine nm_r (nI_1 pc) (br_f (by decide) (br_f (by decide) (br_f (by decide) (br_f (by decide) (br_f (by decide) (br_f (by decide) (br_f (by decide) (br_f (by decide) (br_f (by decide) (br_f (by decide) (br_f (by decide) (br_f (by decide) (br_f (by decide) (br_f (by decide) (br_f (by decide) (br_f (by decide) (br_t rfl ?_)))))))))))))))))
  refine br_c (fun c => ?_) (fun c => ?_)
  · rw [if_pos c] at h
    unfold wY_effect_374
    refine sy_push (d := d) _ (by omega) hS2 ?_
    exact br_f (by decide) h
  · rw [if_neg c] at h
    unfold wY_effect_374
    refine sy_push (d := d) _ (by omega) hS2 ?_
    exact br_f (by decide) h
theorem sx_o0 (post : Int32 → SX → Prop) (hpc : pc < 24) (hop : ops pc = nI 0) (hb : S ≤ 32 ∧ R ≤ 8 ∧ Q ≤ 8 ∧ d ≤ S ∧ rc ≤ R ∧ ci ≤ Q ∧ co ≤ Q) (hh : sc_hin 0 (d) S (rc) R (ci) co Q = 1)  (h : post 2 (nI P, nI S, nI R, nI Q, nI 2, nI pc, nI sz, nI d, nI rc, nI fi, nI ci, nI fo, nI co, ops, args, stk, ret, xi, xo)) : wpX_executeOne post (nI P, nI S, nI R, nI Q, nI st, nI pc, nI sz, nI d, nI rc, nI fi, nI ci, nI fo, nI co, ops, args, stk, ret, xi, xo) := by
  have cp : (nI pc).toNatClampNeg = pc := nI_clamp (by omega)
  unfold wpX_executeOne
  refine ⟨vp_in_nI hpc (by omega), nm_r (e' := (0 : Int32)) (by rw [cp]; exact hop) ⟨vp_in_nI hpc (by omega), nm_r (e' := args pc) (by rw [cp]) ?_⟩⟩
  refine sx_hin (o := 0) _ (by decide) hb (fun k ek => ?_)
  rw [hh] at ek
  subst ek
  refine br_t rfl (br_t rfl ?_)
  exact h
theorem sy_o0 (post : Int32 → SY → Prop) (hpc : pc < 24) (hS2 : S ≤ 32)  (h : post 2 (nI P, nI S, nI R, nI Q, nI sz, nI d, nI rc, nI ci, nI co, nI st, nI pc, ops, args, stk, ret, yi, yo)) : wY_step_138 post 0 0 (nI P) (nI S) (nI R) (nI Q) (nI sz) (nI d) (nI rc) (nI ci) (nI co) (nI st) (nI pc) ops args stk ret yi yo := by
  unfold wY_step_138
  refine ⟨vp_in_nI hpc (by omega), ?_⟩
  rw [nI_clamp (n := pc) (by omega)]
  refine sy_eff0 _ ?_
  unfold wY_effect_72
  refine nm_r (nI_1 pc) (br_f (by decide) (br_f (by decide) (br_t rfl ?_)))
  exact br_t rfl h
theorem sx_o15 (post : Int32 → SX → Prop) (hpc : pc < 24) (hop : ops pc = nI 15) (hb : S ≤ 32 ∧ R ≤ 8 ∧ Q ≤ 8 ∧ d ≤ S ∧ rc ≤ R ∧ ci + 1 ≤ Q ∧ co ≤ Q) (hh : sc_hin 15 (d) S (rc) R (ci + 1) co Q = 1) (hf : fi < 8) (hS : d + 1 ≤ S) (h : post 1 (nI P, nI S, nI R, nI Q, nI st, nI (pc + 1), nI sz, nI (d + 1), nI rc, nI ((fi + 1) % 8), nI ci, nI fo, nI co, ops, args, upd stk d (xi fi), ret, xi, xo)) : wpX_executeOne post (nI P, nI S, nI R, nI Q, nI st, nI pc, nI sz, nI d, nI rc, nI fi, nI (ci + 1), nI fo, nI co, ops, args, stk, ret, xi, xo) := by
  have cp : (nI pc).toNatClampNeg = pc := nI_clamp (by omega)
  unfold wpX_executeOne
  refine ⟨vp_in_nI hpc (by omega), nm_r (e' := (15 : Int32)) (by rw [cp]; exact hop) ⟨vp_in_nI hpc (by omega), nm_r (e' := args pc) (by rw [cp]) ?_⟩⟩
  refine sx_hin (o := 15) _ (by decide) hb (fun k ek => ?_)
  rw [hh] at ek
  subst ek
  refine br_t rfl (br_f (by decide) (br_t (by decide) (br_f (by decide) ?_)))
  unfold wpX_moveThroughQueue
  refine br_t rfl ⟨vp_in_nI hf (by omega), nm_r (e' := xi fi) (by rw [nI_clamp (by omega)]) ?_⟩
  refine sx_ring (b := 1) _ (by omega) ?_
  refine nm_r (nI_pred ci) ?_
  refine sx_push (d := d) _ (by omega) ?_
  unfold wX_executeOne_110
  exact nm_r (nI_1 pc) h
theorem sy_o15 (post : Int32 → SY → Prop) (hpc : pc < 24) (hS2 : S ≤ 32) (hS : d + 1 ≤ S) (hc : ci + 1 ≤ 8) (h : post 1 (nI P, nI S, nI R, nI Q, nI sz, nI (d + 1), nI rc, nI ci, nI co, nI st, nI (pc + 1), ops, args, upd stk d (yi 0), ret, sc_sh yi ci, yo)) : wY_step_138 post 15 0 (nI P) (nI S) (nI R) (nI Q) (nI sz) (nI d) (nI rc) (nI (ci + 1)) (nI co) (nI st) (nI pc) ops args stk ret yi yo := by
  unfold wY_step_138
  refine ⟨vp_in_nI hpc (by omega), ?_⟩
  rw [nI_clamp (n := pc) (by omega)]
  refine sy_eff0 _ ?_
  unfold wY_effect_72
  refine nm_r (nI_1 pc) (br_f (by decide) (br_f (by decide) (br_f (by decide) (br_f (by decide) (br_f (by decide) (br_f (by decide) (br_f (by decide) (br_f (by decide) (br_f (by decide) (br_f (by decide) (br_f (by decide) (br_f (by decide) (br_f (by decide) (br_f (by decide) (br_f (by decide) (br_f (by decide) (br_f (by decide) (br_t rfl ?_))))))))))))))))))
  refine sy_push (d := d) _ (by omega) hS2 ?_
  exact ⟨ci + 1, sc_sh_0 yi ▸ sy_sh _ _ yi hc (br_f (by decide) h) ci 0 (by omega)⟩
theorem sx_o16 (post : Int32 → SX → Prop) (hpc : pc < 24) (hop : ops pc = nI 16) (hb : S ≤ 32 ∧ R ≤ 8 ∧ Q ≤ 8 ∧ d + 1 ≤ S ∧ rc ≤ R ∧ ci ≤ Q ∧ co ≤ Q) (hh : sc_hin 16 (d + 1) S (rc) R (ci) co Q = 1) (hf : fo < 8) (h : post 1 (nI P, nI S, nI R, nI Q, nI st, nI (pc + 1), nI sz, nI d, nI rc, nI fi, nI ci, nI fo, nI (co + 1), ops, args, stk, ret, xi, upd xo ((fo + co) % 8) (stk d))) : wpX_executeOne post (nI P, nI S, nI R, nI Q, nI st, nI pc, nI sz, nI (d + 1), nI rc, nI fi, nI ci, nI fo, nI co, ops, args, stk, ret, xi, xo) := by
  have cp : (nI pc).toNatClampNeg = pc := nI_clamp (by omega)
  unfold wpX_executeOne
  refine ⟨vp_in_nI hpc (by omega), nm_r (e' := (16 : Int32)) (by rw [cp]; exact hop) ⟨vp_in_nI hpc (by omega), nm_r (e' := args pc) (by rw [cp]) ?_⟩⟩
  refine sx_hin (o := 16) _ (by decide) hb (fun k ek => ?_)
  rw [hh] at ek
  subst ek
  refine br_t rfl (br_f (by decide) (br_t (by decide) (br_f (by decide) ?_)))
  unfold wpX_moveThroughQueue
  refine br_f (by decide) ?_
  refine sx_ring _ (by omega) ?_
  refine sx_pop (d := d) _ (by omega) ?_
  refine ⟨vp_in_nI (Nat.mod_lt _ (by decide)) (by omega), nm_r (e' := upd xo ((fo + co) % 8) (stk d)) (by rw [nI_clamp (by omega)]) (nm_r (nI_1 co) ?_)⟩
  unfold wX_executeOne_110
  exact nm_r (nI_1 pc) h
theorem sy_o16 (post : Int32 → SY → Prop) (hpc : pc < 24) (hS2 : S ≤ 32) (hD : d + 1 ≤ S) (hc : co < 8) (h : post 1 (nI P, nI S, nI R, nI Q, nI sz, nI d, nI rc, nI ci, nI (co + 1), nI st, nI (pc + 1), ops, args, stk, ret, yi, upd yo co (stk d))) : wY_step_138 post 16 1 (nI P) (nI S) (nI R) (nI Q) (nI sz) (nI (d + 1)) (nI rc) (nI ci) (nI co) (nI st) (nI pc) ops args stk ret yi yo := by
  unfold wY_step_138
  refine ⟨vp_in_nI hpc (by omega), ?_⟩
  rw [nI_clamp (n := pc) (by omega)]
  refine sy_eff1 _ (by omega) ?_
  unfold wY_effect_72
  refine nm_r (nI_1 pc) (br_f (by decide) (br_f (by decide) (br_f (by decide) (br_f (by decide) (br_f (by decide) (br_f (by decide) (br_f (by decide) (br_f (by decide) (br_f (by decide) (br_f (by decide) (br_f (by decide) (br_f (by decide) (br_f (by decide) (br_f (by decide) (br_f (by decide) (br_f (by decide) (br_f (by decide) (br_f (by decide) (br_t rfl ?_)))))))))))))))))))
  exact ⟨vp_in_nI hc (by omega), nm_r (e' := upd yo co (stk d)) (by rw [nI_clamp (by omega)]) (nm_r (nI_1 co) (br_f (by decide) h))⟩
theorem sx_o17 (post : Int32 → SX → Prop) (hpc : pc < 24) (hop : ops pc = nI 17) (hb : S ≤ 32 ∧ R ≤ 8 ∧ Q ≤ 8 ∧ d ≤ S ∧ rc ≤ R ∧ ci ≤ Q ∧ co ≤ Q) (hh : sc_hin 17 (d) S (rc) R (ci) co Q = 1)  (h : post 1 (nI P, nI S, nI R, nI Q, nI st, args pc, nI sz, nI d, nI rc, nI fi, nI ci, nI fo, nI co, ops, args, stk, ret, xi, xo)) : wpX_executeOne post (nI P, nI S, nI R, nI Q, nI st, nI pc, nI sz, nI d, nI rc, nI fi, nI ci, nI fo, nI co, ops, args, stk, ret, xi, xo) := by
  have cp : (nI pc).toNatClampNeg = pc := nI_clamp (by omega)
  unfold wpX_executeOne
  refine ⟨vp_in_nI hpc (by omega), nm_r (e' := (17 : Int32)) (by rw [cp]; exact hop) ⟨vp_in_nI hpc (by omega), nm_r (e' := args pc) (by rw [cp]) ?_⟩⟩
  refine sx_hin (o := 17) _ (by decide) hb (fun k ek => ?_)
  rw [hh] at ek
  subst ek
  refine br_t rfl (br_f (by decide) (br_f (by decide) ?_))
  unfold wpX_branch
  refine br_t (by decide) ?_
  exact h
theorem sy_o17 (post : Int32 → SY → Prop) (hpc : pc < 24) (hS2 : S ≤ 32)  (h : post 1 (nI P, nI S, nI R, nI Q, nI sz, nI d, nI rc, nI ci, nI co, nI st, args pc, ops, args, stk, ret, yi, yo)) : wY_step_138 post 17 0 (nI P) (nI S) (nI R) (nI Q) (nI sz) (nI d) (nI rc) (nI ci) (nI co) (nI st) (nI pc) ops args stk ret yi yo := by
  unfold wY_step_138
  refine ⟨vp_in_nI hpc (by omega), ?_⟩
  rw [nI_clamp (n := pc) (by omega)]
  refine sy_eff0 _ ?_
  unfold wY_effect_72
  refine nm_r (nI_1 pc) (br_f (by decide) (br_f (by decide) (br_f (by decide) (br_f (by decide) (br_f (by decide) (br_f (by decide) (br_f (by decide) (br_f (by decide) (br_f (by decide) (br_f (by decide) (br_f (by decide) (br_f (by decide) (br_f (by decide) (br_f (by decide) (br_f (by decide) (br_f (by decide) (br_f (by decide) (br_f (by decide) (br_f (by decide) (br_t rfl ?_))))))))))))))))))))
  exact br_f (by decide) h
theorem sx_o18z (post : Int32 → SX → Prop) (hpc : pc < 24) (hop : ops pc = nI 18) (hb : S ≤ 32 ∧ R ≤ 8 ∧ Q ≤ 8 ∧ d + 1 ≤ S ∧ rc ≤ R ∧ ci ≤ Q ∧ co ≤ Q) (hh : sc_hin 18 (d + 1) S (rc) R (ci) co Q = 1) (hz : stk d = 0) (h : post 1 (nI P, nI S, nI R, nI Q, nI st, args pc, nI sz, nI d, nI rc, nI fi, nI ci, nI fo, nI co, ops, args, stk, ret, xi, xo)) : wpX_executeOne post (nI P, nI S, nI R, nI Q, nI st, nI pc, nI sz, nI (d + 1), nI rc, nI fi, nI ci, nI fo, nI co, ops, args, stk, ret, xi, xo) := by
  have cp : (nI pc).toNatClampNeg = pc := nI_clamp (by omega)
  unfold wpX_executeOne
  refine ⟨vp_in_nI hpc (by omega), nm_r (e' := (18 : Int32)) (by rw [cp]; exact hop) ⟨vp_in_nI hpc (by omega), nm_r (e' := args pc) (by rw [cp]) ?_⟩⟩
  refine sx_hin (o := 18) _ (by decide) hb (fun k ek => ?_)
  rw [hh] at ek
  subst ek
  refine br_t rfl (br_f (by decide) (br_f (by decide) ?_))
  unfold wpX_branch
  refine br_f (by decide) (br_f (by decide) (br_t rfl ?_))
  refine sx_pop (d := d) _ (by omega) ?_
  exact br_t hz h
theorem sy_o18z (post : Int32 → SY → Prop) (hpc : pc < 24) (hS2 : S ≤ 32) (hD : d + 1 ≤ S) (hz : stk d = 0) (h : post 1 (nI P, nI S, nI R, nI Q, nI sz, nI d, nI rc, nI ci, nI co, nI st, args pc, ops, args, stk, ret, yi, yo)) : wY_step_138 post 18 1 (nI P) (nI S) (nI R) (nI Q) (nI sz) (nI (d + 1)) (nI rc) (nI ci) (nI co) (nI st) (nI pc) ops args stk ret yi yo := by
  unfold wY_step_138
  refine ⟨vp_in_nI hpc (by omega), ?_⟩
  rw [nI_clamp (n := pc) (by omega)]
  refine sy_eff1 _ (by omega) ?_
  unfold wY_effect_72
  refine nm_r (nI_1 pc) (br_f (by decide) (br_f (by decide) (br_f (by decide) (br_f (by decide) (br_f (by decide) (br_f (by decide) (br_f (by decide) (br_f (by decide) (br_f (by decide) (br_f (by decide) (br_f (by decide) (br_f (by decide) (br_f (by decide) (br_f (by decide) (br_f (by decide) (br_f (by decide) (br_f (by decide) (br_f (by decide) (br_f (by decide) (br_f (by decide) (br_t rfl ?_)))))))))))))))))))))
  exact br_t hz (br_f (by decide) h)
theorem sx_o18n (post : Int32 → SX → Prop) (hpc : pc < 24) (hop : ops pc = nI 18) (hb : S ≤ 32 ∧ R ≤ 8 ∧ Q ≤ 8 ∧ d + 1 ≤ S ∧ rc ≤ R ∧ ci ≤ Q ∧ co ≤ Q) (hh : sc_hin 18 (d + 1) S (rc) R (ci) co Q = 1) (hz : ¬ stk d = 0) (h : post 1 (nI P, nI S, nI R, nI Q, nI st, nI (pc + 1), nI sz, nI d, nI rc, nI fi, nI ci, nI fo, nI co, ops, args, stk, ret, xi, xo)) : wpX_executeOne post (nI P, nI S, nI R, nI Q, nI st, nI pc, nI sz, nI (d + 1), nI rc, nI fi, nI ci, nI fo, nI co, ops, args, stk, ret, xi, xo) := by
  have cp : (nI pc).toNatClampNeg = pc := nI_clamp (by omega)
  unfold wpX_executeOne
  refine ⟨vp_in_nI hpc (by omega), nm_r (e' := (18 : Int32)) (by rw [cp]; exact hop) ⟨vp_in_nI hpc (by omega), nm_r (e' := args pc) (by rw [cp]) ?_⟩⟩
  refine sx_hin (o := 18) _ (by decide) hb (fun k ek => ?_)
  rw [hh] at ek
  subst ek
  refine br_t rfl (br_f (by decide) (br_f (by decide) ?_))
  unfold wpX_branch
  refine br_f (by decide) (br_f (by decide) (br_t rfl ?_))
  refine sx_pop (d := d) _ (by omega) ?_
  exact br_f hz (nm_r (nI_1 pc) h)
theorem sy_o18n (post : Int32 → SY → Prop) (hpc : pc < 24) (hS2 : S ≤ 32) (hD : d + 1 ≤ S) (hz : ¬ stk d = 0) (h : post 1 (nI P, nI S, nI R, nI Q, nI sz, nI d, nI rc, nI ci, nI co, nI st, nI (pc + 1), ops, args, stk, ret, yi, yo)) : wY_step_138 post 18 1 (nI P) (nI S) (nI R) (nI Q) (nI sz) (nI (d + 1)) (nI rc) (nI ci) (nI co) (nI st) (nI pc) ops args stk ret yi yo := by
  unfold wY_step_138
  refine ⟨vp_in_nI hpc (by omega), ?_⟩
  rw [nI_clamp (n := pc) (by omega)]
  refine sy_eff1 _ (by omega) ?_
  unfold wY_effect_72
  refine nm_r (nI_1 pc) (br_f (by decide) (br_f (by decide) (br_f (by decide) (br_f (by decide) (br_f (by decide) (br_f (by decide) (br_f (by decide) (br_f (by decide) (br_f (by decide) (br_f (by decide) (br_f (by decide) (br_f (by decide) (br_f (by decide) (br_f (by decide) (br_f (by decide) (br_f (by decide) (br_f (by decide) (br_f (by decide) (br_f (by decide) (br_f (by decide) (br_t rfl ?_)))))))))))))))))))))
  exact br_f hz (nm_r (nI_1 pc) (br_f (by decide) h))
theorem sx_o19 (post : Int32 → SX → Prop) (hpc : pc < 24) (hop : ops pc = nI 19) (hb : S ≤ 32 ∧ R ≤ 8 ∧ Q ≤ 8 ∧ d ≤ S ∧ rc ≤ R ∧ ci ≤ Q ∧ co ≤ Q) (hh : sc_hin 19 (d) S (rc) R (ci) co Q = 1) (hr : rc < 8) (h : post 1 (nI P, nI S, nI R, nI Q, nI st, args pc, nI sz, nI d, nI (rc + 1), nI fi, nI ci, nI fo, nI co, ops, args, stk, upd ret rc (nI (pc + 1)), xi, xo)) : wpX_executeOne post (nI P, nI S, nI R, nI Q, nI st, nI pc, nI sz, nI d, nI rc, nI fi, nI ci, nI fo, nI co, ops, args, stk, ret, xi, xo) := by
  have cp : (nI pc).toNatClampNeg = pc := nI_clamp (by omega)
  unfold wpX_executeOne
  refine ⟨vp_in_nI hpc (by omega), nm_r (e' := (19 : Int32)) (by rw [cp]; exact hop) ⟨vp_in_nI hpc (by omega), nm_r (e' := args pc) (by rw [cp]) ?_⟩⟩
  refine sx_hin (o := 19) _ (by decide) hb (fun k ek => ?_)
  rw [hh] at ek
  subst ek
  refine br_t rfl (br_f (by decide) (br_f (by decide) ?_))
  unfold wpX_branch
  refine br_f (by decide) (br_f (by decide) (br_f (by decide) (br_t rfl ?_)))
  exact ⟨vp_in_nI hr (by omega), nm_r (e' := upd ret rc (nI (pc + 1))) (by rw [nI_clamp (by omega), nI_1]) (nm_r (nI_1 rc) h)⟩
theorem sy_o19 (post : Int32 → SY → Prop) (hpc : pc < 24) (hS2 : S ≤ 32) (hr : rc < 8) (h : post 1 (nI P, nI S, nI R, nI Q, nI sz, nI d, nI (rc + 1), nI ci, nI co, nI st, args pc, ops, args, stk, upd ret rc (nI (pc + 1)), yi, yo)) : wY_step_138 post 19 0 (nI P) (nI S) (nI R) (nI Q) (nI sz) (nI d) (nI rc) (nI ci) (nI co) (nI st) (nI pc) ops args stk ret yi yo := by
  unfold wY_step_138
  refine ⟨vp_in_nI hpc (by omega), ?_⟩
  rw [nI_clamp (n := pc) (by omega)]
  refine sy_eff0 _ ?_
  unfold wY_effect_72
  refine nm_r (nI_1 pc) (br_f (by decide) (br_f (by decide) (br_f (by decide) (br_f (by decide) (br_f (by decide) (br_f (by decide) (br_f (by decide) (br_f (by decide) (br_f (by decide) (br_f (by decide) (br_f (by decide) (br_f (by decide) (br_f (by decide) (br_f (by decide) (br_f (by decide) (br_f (by decide) (br_f (by decide) (br_f (by decide) (br_f (by decide) (br_f (by decide) (br_f (by decide) (br_t rfl ?_))))))))))))))))))))))
  exact ⟨vp_in_nI hr (by omega), nm_r (e' := upd ret rc (nI (pc + 1))) (by rw [nI_clamp (by omega), nI_1]) (nm_r (nI_1 rc) (br_f (by decide) h))⟩
theorem sx_o20 (post : Int32 → SX → Prop) (hpc : pc < 24) (hop : ops pc = nI 20) (hb : S ≤ 32 ∧ R ≤ 8 ∧ Q ≤ 8 ∧ d ≤ S ∧ rc + 1 ≤ R ∧ ci ≤ Q ∧ co ≤ Q) (hh : sc_hin 20 (d) S (rc + 1) R (ci) co Q = 1) (hr : rc < 8) (h : post 1 (nI P, nI S, nI R, nI Q, nI st, ret rc, nI sz, nI d, nI rc, nI fi, nI ci, nI fo, nI co, ops, args, stk, ret, xi, xo)) : wpX_executeOne post (nI P, nI S, nI R, nI Q, nI st, nI pc, nI sz, nI d, nI (rc + 1), nI fi, nI ci, nI fo, nI co, ops, args, stk, ret, xi, xo) := by
  have cp : (nI pc).toNatClampNeg = pc := nI_clamp (by omega)
  unfold wpX_executeOne
  refine ⟨vp_in_nI hpc (by omega), nm_r (e' := (20 : Int32)) (by rw [cp]; exact hop) ⟨vp_in_nI hpc (by omega), nm_r (e' := args pc) (by rw [cp]) ?_⟩⟩
  refine sx_hin (o := 20) _ (by decide) hb (fun k ek => ?_)
  rw [hh] at ek
  subst ek
  refine br_t rfl (br_f (by decide) (br_f (by decide) ?_))
  unfold wpX_branch
  refine br_f (by decide) (br_f (by decide) (br_f (by decide) (br_f (by decide) (br_t rfl ?_))))
  exact nm_r (nI_pred rc) ⟨vp_in_nI hr (by omega), nm_r (e' := ret rc) (by rw [nI_clamp (by omega)]) h⟩
theorem sy_o20 (post : Int32 → SY → Prop) (hpc : pc < 24) (hS2 : S ≤ 32) (hr : rc < 8) (h : post 1 (nI P, nI S, nI R, nI Q, nI sz, nI d, nI rc, nI ci, nI co, nI st, ret rc, ops, args, stk, ret, yi, yo)) : wY_step_138 post 20 0 (nI P) (nI S) (nI R) (nI Q) (nI sz) (nI d) (nI (rc + 1)) (nI ci) (nI co) (nI st) (nI pc) ops args stk ret yi yo := by
  unfold wY_step_138
  refine ⟨vp_in_nI hpc (by omega), ?_⟩
  rw [nI_clamp (n := pc) (by omega)]
  refine sy_eff0 _ ?_
  unfold wY_effect_72
  refine nm_r (nI_1 pc) (br_f (by decide) (br_f (by decide) (br_f (by decide) (br_f (by decide) (br_f (by decide) (br_f (by decide) (br_f (by decide) (br_f (by decide) (br_f (by decide) (br_f (by decide) (br_f (by decide) (br_f (by decide) (br_f (by decide) (br_f (by decide) (br_f (by decide) (br_f (by decide) (br_f (by decide) (br_f (by decide) (br_f (by decide) (br_f (by decide) (br_f (by decide) (br_f (by decide) (br_t rfl ?_)))))))))))))))))))))))
  exact nm_r (nI_pred rc) ⟨vp_in_nI hr (by omega), nm_r (e' := ret rc) (by rw [nI_clamp (by omega)]) (br_f (by decide) h)⟩
theorem sx_flt (post : Int32 → SX → Prop) {o k : Nat} (ho : o ≤ 20) (hpc : pc < 24) (hop : ops pc = nI o) (hb : S ≤ 32 ∧ R ≤ 8 ∧ Q ≤ 8 ∧ d ≤ S ∧ rc ≤ R ∧ ci ≤ Q ∧ co ≤ Q) (hh : sc_hin o d S rc R ci co Q = k) (hk : 3 ≤ k ∧ k ≤ 6) (h : post (nI k) (nI P, nI S, nI R, nI Q, nI k, nI pc, nI sz, nI d, nI rc, nI fi, nI ci, nI fo, nI co, ops, args, stk, ret, xi, xo)) : wpX_executeOne post (nI P, nI S, nI R, nI Q, nI st, nI pc, nI sz, nI d, nI rc, nI fi, nI ci, nI fo, nI co, ops, args, stk, ret, xi, xo) := by
  have cp : (nI pc).toNatClampNeg = pc := nI_clamp (by omega)
  unfold wpX_executeOne
  refine ⟨vp_in_nI hpc (by omega), nm_r (e' := nI o) (by rw [cp]; exact hop) ⟨vp_in_nI hpc (by omega), nm_r (e' := args pc) (by rw [cp]) ?_⟩⟩
  refine sx_hin (o := o) _ ho hb (fun j ej => ?_)
  rw [hh] at ej
  subst ej
  exact pk_eq k 1 (fun c => absurd c (by omega)) (fun _ => pk_eq k 7 (fun c => absurd c (by omega)) (fun _ => pk_eq k 8 (fun c => absurd c (by omega)) (fun _ => h)))
theorem sx_wai (post : Int32 → SX → Prop) {o k : Nat} (ho : o ≤ 20) (hpc : pc < 24) (hop : ops pc = nI o) (hb : S ≤ 32 ∧ R ≤ 8 ∧ Q ≤ 8 ∧ d ≤ S ∧ rc ≤ R ∧ ci ≤ Q ∧ co ≤ Q) (hh : sc_hin o d S rc R ci co Q = k) (hk : k = 7 ∨ k = 8) (h : post (nI k) (nI P, nI S, nI R, nI Q, nI st, nI pc, nI sz, nI d, nI rc, nI fi, nI ci, nI fo, nI co, ops, args, stk, ret, xi, xo)) : wpX_executeOne post (nI P, nI S, nI R, nI Q, nI st, nI pc, nI sz, nI d, nI rc, nI fi, nI ci, nI fo, nI co, ops, args, stk, ret, xi, xo) := by
  have cp : (nI pc).toNatClampNeg = pc := nI_clamp (by omega)
  unfold wpX_executeOne
  refine ⟨vp_in_nI hpc (by omega), nm_r (e' := nI o) (by rw [cp]; exact hop) ⟨vp_in_nI hpc (by omega), nm_r (e' := args pc) (by rw [cp]) ?_⟩⟩
  refine sx_hin (o := o) _ ho hb (fun j ej => ?_)
  rw [hh] at ej
  subst ej
  exact pk_eq k 1 (fun c => absurd c (by omega)) (fun _ => pk_eq k 7 (fun _ => h) (fun _ => pk_eq k 8 (fun _ => h) (fun c => absurd hk (by omega))))
end SCO
