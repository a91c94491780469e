section SCC
variable {P S R Q st pc sz d rc fi ci fo co : Nat} {ops args stk ret xi xo yi yo : Nat → Int32}
theorem sc_ne {a b : Nat} (ha : a < 2 ^ 31) (hb : b < 2 ^ 31) (h : a ≠ b) : ¬ nI a = nI b := fun e => h ((nI_eq ha hb).mp e)
theorem i_vc0 (k0 : Int32) (k1 : Int32) (k2 : Int32) (k3 : Int32) : wpX_init (fun u => wpY_init (fun v => i_Rel 4 u v) k0 k1 k2 k3) k0 k1 k2 k3 := by
  obtain ⟨a, a1, a2, ax, ay⟩ := sc_cl 8 24 (by decide) (by decide) k0
  obtain ⟨b, b1, b2, bx, b'⟩ := sc_cl 4 32 (by decide) (by decide) k1
  obtain ⟨c, c1, c2, cx, cy⟩ := sc_cl 1 8 (by decide) (by decide) k2
  obtain ⟨q, q1, q2, qx, qy⟩ := sc_cl 1 8 (by decide) (by decide) k3
  unfold wpX_init
  refine ax _ ?_
  refine bx _ ?_
  refine cx _ ?_
  refine qx _ ?_
  unfold wpY_init
  refine ay _ _ ?_
  refine b' _ _ ?_
  refine cy _ _ ?_
  refine qy _ _ ?_
  exact ⟨0, 0, a, b, c, q, 0, 0, 0, 0, 0, 0, 0, fun _ => 0, fun _ => 0, fun _ => 0, fun _ => 0, fun _ => 0, fun _ => 0, fun _ => 0, fun _ => 0, rfl, rfl, ⟨by omega, sc_R_0, sc_R_0, fun i h => absurd h (Nat.not_lt_zero i), fun z => absurd z (by decide)⟩⟩
theorem i_vc_emit {k : Nat} {u : SX} {v : SY} (I : i_Rel k u v) (hk : k + 3 ≤ 1540) (v1 : Int32) (v2 : Int32) : wpX_emit (fun r u' => wpY_emit (fun r' v' => r' = r ∧ i_Rel (k + 3) u' v') v v1 v2) u v1 v2 := by
  obtain ⟨st, pc, P, S, R, Q, sz, d, rc, fi, ci, fo, co, ops, args, stk, ret, xi, xo, yi, yo, rfl, rfl, I⟩ := I
  have I0 := I
  obtain ⟨hb, hRi, hRo, hO, hr⟩ := I0
  unfold wpX_emit
  by_cases c0 : st = 0
  · subst c0
    by_cases hneg : v1 < 0
    · exact br_t rfl (br_t hneg (br_t rfl (br_t hneg ⟨rfl, sc_rel _ I⟩)))
    · obtain ⟨o, ho, rfl⟩ := nI_of hneg
      by_cases h20 : (20 : Int32) < nI o
      · exact br_t rfl (br_f hneg (br_t h20 (br_t rfl (br_f hneg (br_t h20 ⟨rfl, sc_rel _ I⟩)))))
      · have ho20 : o ≤ 20 := Nat.le_of_not_lt fun c => h20 (nI_lt (a := 20) c ho)
        by_cases hz : sz < P
        · have z1 : nI sz < nI P := nI_lt hz (by omega)
          have cs : (nI sz).toNatClampNeg = sz := nI_clamp (by omega)
          have vi : vp_in (nI sz) 24 := vp_in_nI (by omega) (by omega)
          refine br_t rfl (br_f hneg (br_f h20 (br_t z1 ⟨vi, nm_r (e' := upd ops sz (nI o)) (by rw [cs]) ⟨vi, nm_r (e' := upd args sz v2) (by rw [cs]) (nm_r (nI_1 sz) ?_)⟩⟩)))
          refine br_t rfl (br_f hneg (br_f h20 (br_t z1 ⟨vi, nm_r (e' := upd ops sz (nI o)) (by rw [cs]) ⟨vi, nm_r (e' := upd args sz v2) (by rw [cs]) (nm_r (nI_1 sz) ⟨nI_pred sz, ?_⟩)⟩⟩)))
          exact sc_rel (st := 0) _ ⟨by omega, hRi, hRo, sc_O_put hO ho20, fun z => absurd z (by decide)⟩
        · have z1 : ¬ nI sz < nI P := nI_nlt (by omega) (by omega)
          exact br_t rfl (br_f hneg (br_f h20 (br_f z1 (br_t rfl (br_f hneg (br_f h20 (br_f z1 ⟨rfl, sc_rel _ I⟩)))))))
  · have n0 : ¬ nI st = 0 := sc_ne (b := 0) (by omega) (by omega) c0
    exact br_f n0 (br_f n0 ⟨rfl, sc_rel _ I⟩)
theorem i_vc_patch {k : Nat} {u : SX} {v : SY} (I : i_Rel k u v) (hk : k + 3 ≤ 1540) (v1 : Int32) (v2 : Int32) : wpX_patch (fun r u' => wpY_patch (fun r' v' => r' = r ∧ i_Rel (k + 3) u' v') v v1 v2) u v1 v2 := by
  obtain ⟨st, pc, P, S, R, Q, sz, d, rc, fi, ci, fo, co, ops, args, stk, ret, xi, xo, yi, yo, rfl, rfl, I⟩ := I
  have I0 := I
  obtain ⟨hb, hRi, hRo, hO, hr⟩ := I0
  unfold wpX_patch
  by_cases c0 : st = 0
  · subst c0
    by_cases hneg : v1 < 0
    · exact br_t rfl (br_t hneg (br_t rfl (br_t hneg ⟨rfl, sc_rel _ I⟩)))
    · obtain ⟨j, hj, rfl⟩ := nI_of hneg
      by_cases hz : j < sz
      · have z1 : nI j < nI sz := nI_lt hz (by omega)
        have cs : (nI j).toNatClampNeg = j := nI_clamp hj
        have vi : vp_in (nI j) 24 := vp_in_nI (by omega) (by omega)
        refine br_t rfl (br_f hneg (br_t z1 ⟨vi, nm_r (e' := upd args j v2) (by rw [cs]) ?_⟩))
        refine br_t rfl (br_f hneg (br_t z1 ⟨vi, nm_r (e' := upd args j v2) (by rw [cs]) ⟨rfl, ?_⟩⟩))
        exact sc_rel (st := 0) _ ⟨by omega, hRi, hRo, hO, fun z => absurd z (by decide)⟩
      · have z1 : ¬ nI j < nI sz := nI_nlt (by omega) (by omega)
        exact br_t rfl (br_f hneg (br_f z1 (br_t rfl (br_f hneg (br_f z1 ⟨rfl, sc_rel _ I⟩)))))
  · have n0 : ¬ nI st = 0 := sc_ne (b := 0) (by omega) (by omega) c0
    exact br_f n0 (br_f n0 ⟨rfl, sc_rel _ I⟩)
theorem i_vc_erase {k : Nat} {u : SX} {v : SY} (I : i_Rel k u v) (hk : k + 3 ≤ 1540) : wpX_erase (fun r u' => wpY_erase (fun r' v' => r' = r ∧ i_Rel (k + 3) u' v') v) u := by
  obtain ⟨st, pc, P, S, R, Q, sz, d, rc, fi, ci, fo, co, ops, args, stk, ret, xi, xo, yi, yo, rfl, rfl, I⟩ := I
  have I0 := I
  obtain ⟨hb, hRi, hRo, hO, hr⟩ := I0
  unfold wpX_erase
  by_cases c0 : st = 0
  · subst c0
    by_cases hz : sz = 0
    · subst hz
      exact br_t rfl (br_t rfl (br_t rfl (br_t rfl ⟨rfl, sc_rel _ I⟩)))
    · have z1 : ¬ nI sz = 0 := sc_ne (b := 0) (by omega) (by omega) hz
      refine br_t rfl (br_f z1 (nm_r (sc_m1 (by omega)) ?_))
      refine br_t rfl (br_f z1 (nm_r (sc_m1 (by omega)) ⟨rfl, ?_⟩))
      exact sc_rel (st := 0) _ ⟨by omega, hRi, hRo, sc_O_le hO (by omega), fun z => absurd z (by decide)⟩
  · have n0 : ¬ nI st = 0 := sc_ne (b := 0) (by omega) (by omega) c0
    exact br_f n0 (br_f n0 ⟨rfl, sc_rel _ I⟩)
theorem i_vc_edit {k : Nat} {u : SX} {v : SY} (I : i_Rel k u v) (hk : k + 3 ≤ 1540) : wpX_edit (fun r u' => wpY_edit (fun r' v' => r' = r ∧ i_Rel (k + 3) u' v') v) u := by
  obtain ⟨st, pc, P, S, R, Q, sz, d, rc, fi, ci, fo, co, ops, args, stk, ret, xi, xo, yi, yo, rfl, rfl, I⟩ := I
  have I0 := I
  obtain ⟨hb, hRi, hRo, hO, hr⟩ := I0
  unfold wpX_edit
  by_cases c0 : st = 0
  · subst c0
    exact br_t rfl (br_t rfl ⟨rfl, sc_rel _ I⟩)
  · have n0 : ¬ nI st = 0 := sc_ne (b := 0) (by omega) (by omega) c0
    refine br_f n0 ?_
    unfold wpX_restart
    refine br_f n0 ?_
    unfold wpY_restart
    exact ⟨rfl, sc_rel (st := 0) (pc := 0) (d := 0) (rc := 0) _ ⟨by omega, hRi, hRo, hO, fun z => absurd z (by decide)⟩⟩
theorem i_vc_clear {k : Nat} {u : SX} {v : SY} (I : i_Rel k u v) (hk : k + 3 ≤ 1540) : wpX_clear (fun u' => wpY_clear (fun v' => i_Rel (k + 3) u' v') v) u := by
  obtain ⟨st, pc, P, S, R, Q, sz, d, rc, fi, ci, fo, co, ops, args, stk, ret, xi, xo, yi, yo, rfl, rfl, I⟩ := I
  have I0 := I
  obtain ⟨hb, hRi, hRo, hO, hr⟩ := I0
  unfold wpX_clear
  unfold wpX_restart
  show wpY_clear _ _
  unfold wpY_clear
  unfold wpY_restart
  exact sc_rel (st := 0) (pc := 0) (sz := 0) (d := 0) (rc := 0) (fi := 0) (ci := 0) (fo := 0) (co := 0) _ ⟨by omega, sc_R_0, sc_R_0, fun i h => absurd h (Nat.not_lt_zero i), fun z => absurd z (by decide)⟩
theorem i_vc_feed {k : Nat} {u : SX} {v : SY} (I : i_Rel k u v) (hk : k + 3 ≤ 1540) (v1 : Int32) : wpX_feed (fun r u' => wpY_feed (fun r' v' => r' = r ∧ i_Rel (k + 3) u' v') v v1) u v1 := by
  obtain ⟨st, pc, P, S, R, Q, sz, d, rc, fi, ci, fo, co, ops, args, stk, ret, xi, xo, yi, yo, rfl, rfl, I⟩ := I
  have I0 := I
  obtain ⟨hb, hRi, hRo, hO, hr⟩ := I0
  unfold wpX_feed
  by_cases hz : ci < Q
  · have z1 : nI ci < nI Q := nI_lt hz (by omega)
    refine br_t z1 ?_
    refine sx_ring _ (by omega) ?_
    refine ⟨vp_in_nI (Nat.mod_lt _ (by decide)) (by omega), nm_r (e' := upd xi ((fi + ci) % 8) v1) (by rw [nI_clamp (by omega)]) (nm_r (nI_1 ci) ?_)⟩
    refine br_t z1 ⟨vp_in_nI (by omega) (by omega), nm_r (e' := upd yi ci v1) (by rw [nI_clamp (by omega)]) (nm_r (nI_1 ci) ⟨rfl, ?_⟩)⟩
    exact sc_rel (ci := ci + 1) _ ⟨by omega, sc_R_put hRi (by omega), hRo, hO, hr⟩
  · have z1 : ¬ nI ci < nI Q := nI_nlt (by omega) (by omega)
    exact br_f z1 (br_f z1 ⟨rfl, sc_rel _ I⟩)
theorem i_vc_take {k : Nat} {u : SX} {v : SY} (I : i_Rel k u v) (hk : k + 3 ≤ 1540) : wpX_take (fun r u' => wpY_take (fun r' v' => r' = r ∧ i_Rel (k + 3) u' v') v) u := by
  obtain ⟨st, pc, P, S, R, Q, sz, d, rc, fi, ci, fo, co, ops, args, stk, ret, xi, xo, yi, yo, rfl, rfl, I⟩ := I
  have I0 := I
  obtain ⟨hb, hRi, hRo, hO, hr⟩ := I0
  unfold wpX_take
  by_cases hz : co = 0
  · subst hz
    exact br_t rfl (br_t rfl ⟨rfl, sc_rel _ I⟩)
  · obtain ⟨c, rfl⟩ : ∃ c, co = c + 1 := ⟨co - 1, by omega⟩
    have z1 : ¬ nI (c + 1) = 0 := sc_ne (b := 0) (by omega) (by omega) hz
    refine br_f z1 ⟨vp_in_nI (by omega) (by omega), nm_r (e' := xo fo) (by rw [nI_clamp (by omega)]) ?_⟩
    refine sx_ring (b := 1) _ (by omega) ?_
    refine nm_r (nI_pred c) ?_
    refine br_f z1 (nm_r (e' := xo fo) (sc_R_front (by omega) hRo) ⟨c + 1, ?_⟩)
    have T := sy_tk (P := P) (S := S) (R := R) (Q := Q) (st := st) (pc := pc) (sz := sz) (d := d) (rc := rc) (ci := ci) (ops := ops) (args := args) (stk := stk) (ret := ret) (yi := yi) (fun r' v' => r' = xo fo ∧ i_Rel (k + 3) (nI P, nI S, nI R, nI Q, nI st, nI pc, nI sz, nI d, nI rc, nI fi, nI ci, nI ((fo + 1) % 8), nI c, ops, args, stk, ret, xi, xo) v') (xo fo) yo (c := c) (by omega) ⟨rfl, sc_rel (fo := (fo + 1) % 8) (co := c) _ ⟨by omega, hRi, sc_R_get hRo (fun i hi => if_pos hi), hO, hr⟩⟩ c 0 (by omega)
    rw [sc_sh_0] at T
    exact T
theorem i_vc_status {k : Nat} {u : SX} {v : SY} (I : i_Rel k u v) (hk : k + 3 ≤ 1540) : wpX_status (fun r => wpY_status (fun r' => r' = r ∧ i_Rel (k + 3) u v) v) u := by
  obtain ⟨st, pc, P, S, R, Q, sz, d, rc, fi, ci, fo, co, ops, args, stk, ret, xi, xo, yi, yo, rfl, rfl, I⟩ := I
  exact ⟨rfl, sc_rel _ I⟩
theorem i_vc_pc {k : Nat} {u : SX} {v : SY} (I : i_Rel k u v) (hk : k + 3 ≤ 1540) : wpX_pc (fun r => wpY_pc (fun r' => r' = r ∧ i_Rel (k + 3) u v) v) u := by
  obtain ⟨st, pc, P, S, R, Q, sz, d, rc, fi, ci, fo, co, ops, args, stk, ret, xi, xo, yi, yo, rfl, rfl, I⟩ := I
  exact ⟨rfl, sc_rel _ I⟩
theorem i_vc_run {k : Nat} {u : SX} {v : SY} (I : i_Rel k u v) (hk : k + 3 ≤ 1540) (v1 : Int32) : wpX_run (fun r u' => wpY_run (fun r' v' => r' = r ∧ i_Rel (k + 3) u' v') v v1) u v1 := by
  obtain ⟨st, pc, P, S, R, Q, sz, d, rc, fi, ci, fo, co, ops, args, stk, ret, xi, xo, yi, yo, rfl, rfl, I⟩ := I
  have I0 := I
  obtain ⟨hb, hRi, hRo, hO, hr⟩ := I0
  unfold wpX_run
  by_cases c0 : st = 0
  · subst c0
    exact br_t rfl (br_f (by decide) (br_t rfl ⟨rfl, sc_rel _ I⟩))
  · have n0 : ¬ nI st = 0 := sc_ne (b := 0) (by omega) (by omega) c0
    by_cases c1 : st = 1
    · subst c1
      obtain ⟨n, _, hn, cx, cy⟩ := sc_cl 0 256 (by decide) (by decide) v1
      obtain ⟨r, u', v', rel, hx, hy⟩ := sc_loop hn n 0 (by omega) pc P S R Q sz d rc fi ci fo co ops args stk ret xi xo yi yo I
      refine br_f n0 (br_t rfl ?_)
      refine cx _ ⟨n + 1, ?_⟩
      refine hx _ ?_
      refine br_t rfl ?_
      refine cy _ _ ⟨n + 1, ?_⟩
      exact hy _ ⟨rfl, rel⟩
    · have n1 : ¬ nI st = 1 := sc_ne (b := 1) (by omega) (by omega) c1
      exact br_f n0 (br_f n1 (br_f n1 (br_f n0 ⟨rfl, sc_rel _ I⟩)))
end SCC
