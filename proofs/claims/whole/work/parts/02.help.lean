section SCH
variable {P S R Q st pc sz d rc fi ci fo co : Nat} {ops args stk ret xi xo yi yo : Nat → Int32}
/-! the relation: near equality; X's queues are rings, Y's begin at 0 -/
def sc_I (st pc P S R Q sz d rc fi ci fo co : Nat) (ops args ret xi xo yi yo : Nat → Int32) : Prop :=
  (P ≤ 24 ∧ S ≤ 32 ∧ R ≤ 8 ∧ Q ≤ 8 ∧ sz ≤ P ∧ d ≤ S ∧ rc ≤ R ∧ fi < 8 ∧ ci ≤ Q ∧ fo < 8 ∧ co ≤ Q ∧ st ≤ 6) ∧ sc_R xi yi fi ci ∧ sc_R xo yo fo co ∧ sc_O sz ops ∧ (st = 1 → pc < sz ∧ sc_E sz ops ∧ sc_T sz sz ops args ∧ sc_Q sz rc ret)
def sc_J (st ys : Nat) (u : SX) (v : SY) : Prop := ∃ (pc P S R Q sz d rc fi ci fo co : Nat) (ops args stk ret xi xo yi yo : Nat → Int32), u = (nI P, nI S, nI R, nI Q, nI st, nI pc, nI sz, nI d, nI rc, nI fi, nI ci, nI fo, nI co, ops, args, stk, ret, xi, xo) ∧ v = (nI P, nI S, nI R, nI Q, nI sz, nI d, nI rc, nI ci, nI co, nI ys, nI pc, ops, args, stk, ret, yi, yo) ∧ sc_I st pc P S R Q sz d rc fi ci fo co ops args ret xi xo yi yo
def i_Rel (_ : Nat) (u : SX) (v : SY) : Prop := ∃ st : Nat, sc_J st st u v
theorem i_up {k : Nat} {u : SX} {v : SY} (h : i_Rel k u v) : i_Rel (k + 3) u v := h
theorem sc_rel (k : Nat) (I : sc_I st pc P S R Q sz d rc fi ci fo co ops args ret xi xo yi yo) : i_Rel k (nI P, nI S, nI R, nI Q, nI st, nI pc, nI sz, nI d, nI rc, nI fi, nI ci, nI fo, nI co, ops, args, stk, ret, xi, xo) (nI P, nI S, nI R, nI Q, nI sz, nI d, nI rc, nI ci, nI co, nI st, nI pc, ops, args, stk, ret, yi, yo) := ⟨st, pc, P, S, R, Q, sz, d, rc, fi, ci, fo, co, ops, args, stk, ret, xi, xo, yi, yo, rfl, rfl, I⟩
/-! the small methods -/
theorem sx_push (post : SX → Prop) {v : Int32} (hd : d < 32) (h : post (nI P, nI S, nI R, nI Q, nI st, nI pc, nI sz, nI (d + 1), nI rc, nI fi, nI ci, nI fo, nI co, ops, args, upd stk d v, ret, xi, xo)) : wpX_push post (nI P, nI S, nI R, nI Q, nI st, nI pc, nI sz, nI d, nI rc, nI fi, nI ci, nI fo, nI co, ops, args, stk, ret, xi, xo) v := by
  unfold wpX_push
  exact ⟨vp_in_nI hd (by omega), nm_r (congrArg (fun i => upd stk i v) (nI_clamp (by omega))) (nm_r (nI_1 d) h)⟩
theorem sx_pop (post : Int32 → SX → Prop) (hd : d < 32) (h : post (stk d) (nI P, nI S, nI R, nI Q, nI st, nI pc, nI sz, nI d, nI rc, nI fi, nI ci, nI fo, nI co, ops, args, stk, ret, xi, xo)) : wpX_pop post (nI P, nI S, nI R, nI Q, nI st, nI pc, nI sz, nI (d + 1), nI rc, nI fi, nI ci, nI fo, nI co, ops, args, stk, ret, xi, xo) := by
  unfold wpX_pop
  refine nm_r (nI_pred d) ⟨vp_in_nI hd (by omega), ?_⟩
  rw [nI_clamp (by omega)]
  exact h
theorem sy_push (post : SY → Prop) {v : Int32} (hd : d < S) (hS : S ≤ 32) (h : post (nI P, nI S, nI R, nI Q, nI sz, nI (d + 1), nI rc, nI ci, nI co, nI st, nI pc, ops, args, upd stk d v, ret, yi, yo)) : wpY_push post (nI P, nI S, nI R, nI Q, nI sz, nI d, nI rc, nI ci, nI co, nI st, nI pc, ops, args, stk, ret, yi, yo) v := by
  unfold wpY_push
  exact br_t (nI_lt hd (by omega)) ⟨vp_in_nI (by omega) (by omega), nm_r (congrArg (fun i => upd stk i v) (nI_clamp (by omega))) (nm_r (nI_1 d) h)⟩
theorem sx_ring (post : Int32 → Prop) {a b : Nat} (h : a + b < 2 ^ 31) (hp : post (nI ((a + b) % 8))) : wpX_ringIndex post (nI a) (nI b) := by
  have e : (nI a + nI b) - (nI a + nI b) / 8 * 8 = nI ((a + b) % 8) := by
    rw [nI_add]
    exact pk_rem h (by decide) (by decide)
  refine ⟨by decide, ?_⟩
  rw [e]
  exact hp
theorem sc_cl (lo hi : Nat) (hl : lo ≤ hi) (hh : hi < 2 ^ 31) (v : Int32) : ∃ n, lo ≤ n ∧ n ≤ hi ∧ (∀ post : Int32 → Prop, post (nI n) → wpX_clamp post v (nI lo) (nI hi)) ∧ (∀ (post : Int32 → Prop) (y : SY), post (nI n) → wpY_clamp post y v (nI lo) (nI hi)) := by
  by_cases c : nI lo ≤ v
  · have h0 : ¬ v < 0 := Int32.not_lt.mpr (Int32.le_trans (nI_pos' (by omega)) c)
    obtain ⟨j, hj, rfl⟩ := nI_of h0
    rw [nI_leI (by omega) hj] at c
    have c1 : nI lo ≤ nI j := nI_le c hj
    by_cases c2 : j ≤ hi
    · have c3 : nI j ≤ nI hi := nI_le c2 hh
      exact ⟨j, c, c2, fun post h => br_t c1 (br_t c3 h), fun post ⟨_, _, _, _, _, _, _, _, _, _, _, _, _, _, _, _, _⟩ h => br_t c1 (br_t c3 h)⟩
    · have c3 : ¬ nI j ≤ nI hi := nI_ge (by omega) hj
      exact ⟨hi, hl, Nat.le_refl _, fun post h => br_t c1 (br_f c3 h), fun post ⟨_, _, _, _, _, _, _, _, _, _, _, _, _, _, _, _, _⟩ h => br_t c1 (br_f c3 h)⟩
  · exact ⟨lo, Nat.le_refl _, hl, fun post h => br_f c h, fun post ⟨_, _, _, _, _, _, _, _, _, _, _, _, _, _, _, _, _⟩ h => br_f c h⟩
/-! need, growth -/
theorem sx_need : ∀ o, o ≤ 20 → ∀ post : Int32 → Prop, post (nI (sc_nd o)) → wpX_need post (nI o) := by
  refine sc_21 (P := fun o => ∀ post : Int32 → Prop, post (nI (sc_nd o)) → wpX_need post (nI o)) ?_ ?_ ?_ ?_ ?_ ?_ ?_ ?_ ?_ ?_ ?_ ?_ ?_ ?_ ?_ ?_ ?_ ?_ ?_ ?_ ?_
  · intro post h
    have h2 : post (0 : Int32) := h
    show wpX_need post 0
    simpa [wpX_need] using h2
  · intro post h
    have h2 : post (0 : Int32) := h
    show wpX_need post 1
    simpa [wpX_need] using h2
  · intro post h
    have h2 : post (1 : Int32) := h
    show wpX_need post 2
    simpa [wpX_need] using h2
  · intro post h
    have h2 : post (1 : Int32) := h
    show wpX_need post 3
    simpa [wpX_need] using h2
  · intro post h
    have h2 : post (2 : Int32) := h
    show wpX_need post 4
    simpa [wpX_need] using h2
  · intro post h
    have h2 : post (2 : Int32) := h
    show wpX_need post 5
    simpa [wpX_need] using h2
  · intro post h
    have h2 : post (3 : Int32) := h
    show wpX_need post 6
    simpa [wpX_need] using h2
  · intro post h
    have h2 : post (2 : Int32) := h
    show wpX_need post 7
    simpa [wpX_need] using h2
  · intro post h
    have h2 : post (2 : Int32) := h
    show wpX_need post 8
    simpa [wpX_need] using h2
  · intro post h
    have h2 : post (1 : Int32) := h
    show wpX_need post 9
    simpa [wpX_need] using h2
  · intro post h
    have h2 : post (2 : Int32) := h
    show wpX_need post 10
    simpa [wpX_need] using h2
  · intro post h
    have h2 : post (2 : Int32) := h
    show wpX_need post 11
    simpa [wpX_need] using h2
  · intro post h
    have h2 : post (2 : Int32) := h
    show wpX_need post 12
    simpa [wpX_need] using h2
  · intro post h
    have h2 : post (2 : Int32) := h
    show wpX_need post 13
    simpa [wpX_need] using h2
  · intro post h
    have h2 : post (2 : Int32) := h
    show wpX_need post 14
    simpa [wpX_need] using h2
  · intro post h
    have h2 : post (0 : Int32) := h
    show wpX_need post 15
    simpa [wpX_need] using h2
  · intro post h
    have h2 : post (1 : Int32) := h
    show wpX_need post 16
    simpa [wpX_need] using h2
  · intro post h
    have h2 : post (0 : Int32) := h
    show wpX_need post 17
    simpa [wpX_need] using h2
  · intro post h
    have h2 : post (1 : Int32) := h
    show wpX_need post 18
    simpa [wpX_need] using h2
  · intro post h
    have h2 : post (0 : Int32) := h
    show wpX_need post 19
    simpa [wpX_need] using h2
  · intro post h
    have h2 : post (0 : Int32) := h
    show wpX_need post 20
    simpa [wpX_need] using h2
theorem sx_growth : ∀ o, o ≤ 20 → ∀ post : Int32 → Prop, post (sc_gI o) → wpX_growth post (nI o) := by
  refine sc_21 (P := fun o => ∀ post : Int32 → Prop, post (sc_gI o) → wpX_growth post (nI o)) ?_ ?_ ?_ ?_ ?_ ?_ ?_ ?_ ?_ ?_ ?_ ?_ ?_ ?_ ?_ ?_ ?_ ?_ ?_ ?_ ?_
  · intro post h
    have h2 : post (0 : Int32) := h
    show wpX_growth post 0
    simpa [wpX_growth] using h2
  · intro post h
    have h2 : post (1 : Int32) := h
    show wpX_growth post 1
    simpa [wpX_growth] using h2
  · intro post h
    have h2 : post (1 : Int32) := h
    show wpX_growth post 2
    simpa [wpX_growth] using h2
  · intro post h
    have h2 : post (-1 : Int32) := h
    show wpX_growth post 3
    simpa [wpX_growth] using h2
  · intro post h
    have h2 : post (0 : Int32) := h
    show wpX_growth post 4
    simpa [wpX_growth] using h2
  · intro post h
    have h2 : post (1 : Int32) := h
    show wpX_growth post 5
    simpa [wpX_growth] using h2
  · intro post h
    have h2 : post (0 : Int32) := h
    show wpX_growth post 6
    simpa [wpX_growth] using h2
  · intro post h
    have h2 : post (-1 : Int32) := h
    show wpX_growth post 7
    simpa [wpX_growth] using h2
  · intro post h
    have h2 : post (1 : Int32) := h
    show wpX_growth post 8
    simpa [wpX_growth] using h2
  · intro post h
    have h2 : post (0 : Int32) := h
    show wpX_growth post 9
    simpa [wpX_growth] using h2
  · intro post h
    have h2 : post (-1 : Int32) := h
    show wpX_growth post 10
    simpa [wpX_growth] using h2
  · intro post h
    have h2 : post (-1 : Int32) := h
    show wpX_growth post 11
    simpa [wpX_growth] using h2
  · intro post h
    have h2 : post (-1 : Int32) := h
    show wpX_growth post 12
    simpa [wpX_growth] using h2
  · intro post h
    have h2 : post (-1 : Int32) := h
    show wpX_growth post 13
    simpa [wpX_growth] using h2
  · intro post h
    have h2 : post (-1 : Int32) := h
    show wpX_growth post 14
    simpa [wpX_growth] using h2
  · intro post h
    have h2 : post (1 : Int32) := h
    show wpX_growth post 15
    simpa [wpX_growth] using h2
  · intro post h
    have h2 : post (-1 : Int32) := h
    show wpX_growth post 16
    simpa [wpX_growth] using h2
  · intro post h
    have h2 : post (0 : Int32) := h
    show wpX_growth post 17
    simpa [wpX_growth] using h2
  · intro post h
    have h2 : post (-1 : Int32) := h
    show wpX_growth post 18
    simpa [wpX_growth] using h2
  · intro post h
    have h2 : post (0 : Int32) := h
    show wpX_growth post 19
    simpa [wpX_growth] using h2
  · intro post h
    have h2 : post (0 : Int32) := h
    show wpX_growth post 20
    simpa [wpX_growth] using h2
theorem sy_need : ∀ o, o ≤ 20 → ∀ post : Int32 → Prop, post (nI (sc_nd o)) → wpY_need post (nI P, nI S, nI R, nI Q, nI sz, nI d, nI rc, nI ci, nI co, nI st, nI pc, ops, args, stk, ret, yi, yo) (nI o) := by
  refine sc_21 (P := fun o => ∀ post : Int32 → Prop, post (nI (sc_nd o)) → wpY_need post (nI P, nI S, nI R, nI Q, nI sz, nI d, nI rc, nI ci, nI co, nI st, nI pc, ops, args, stk, ret, yi, yo) (nI o)) ?_ ?_ ?_ ?_ ?_ ?_ ?_ ?_ ?_ ?_ ?_ ?_ ?_ ?_ ?_ ?_ ?_ ?_ ?_ ?_ ?_
  · intro post h
    have h2 : post (0 : Int32) := h
    show wpY_need post (nI P, nI S, nI R, nI Q, nI sz, nI d, nI rc, nI ci, nI co, nI st, nI pc, ops, args, stk, ret, yi, yo) 0
    simpa [wpY_need] using h2
  · intro post h
    have h2 : post (0 : Int32) := h
    show wpY_need post (nI P, nI S, nI R, nI Q, nI sz, nI d, nI rc, nI ci, nI co, nI st, nI pc, ops, args, stk, ret, yi, yo) 1
    simpa [wpY_need] using h2
  · intro post h
    have h2 : post (1 : Int32) := h
    show wpY_need post (nI P, nI S, nI R, nI Q, nI sz, nI d, nI rc, nI ci, nI co, nI st, nI pc, ops, args, stk, ret, yi, yo) 2
    simpa [wpY_need] using h2
  · intro post h
    have h2 : post (1 : Int32) := h
    show wpY_need post (nI P, nI S, nI R, nI Q, nI sz, nI d, nI rc, nI ci, nI co, nI st, nI pc, ops, args, stk, ret, yi, yo) 3
    simpa [wpY_need] using h2
  · intro post h
    have h2 : post (2 : Int32) := h
    show wpY_need post (nI P, nI S, nI R, nI Q, nI sz, nI d, nI rc, nI ci, nI co, nI st, nI pc, ops, args, stk, ret, yi, yo) 4
    simpa [wpY_need] using h2
  · intro post h
    have h2 : post (2 : Int32) := h
    show wpY_need post (nI P, nI S, nI R, nI Q, nI sz, nI d, nI rc, nI ci, nI co, nI st, nI pc, ops, args, stk, ret, yi, yo) 5
    simpa [wpY_need] using h2
  · intro post h
    have h2 : post (3 : Int32) := h
    show wpY_need post (nI P, nI S, nI R, nI Q, nI sz, nI d, nI rc, nI ci, nI co, nI st, nI pc, ops, args, stk, ret, yi, yo) 6
    simpa [wpY_need] using h2
  · intro post h
    have h2 : post (2 : Int32) := h
    show wpY_need post (nI P, nI S, nI R, nI Q, nI sz, nI d, nI rc, nI ci, nI co, nI st, nI pc, ops, args, stk, ret, yi, yo) 7
    simpa [wpY_need] using h2
  · intro post h
    have h2 : post (2 : Int32) := h
    show wpY_need post (nI P, nI S, nI R, nI Q, nI sz, nI d, nI rc, nI ci, nI co, nI st, nI pc, ops, args, stk, ret, yi, yo) 8
    simpa [wpY_need] using h2
  · intro post h
    have h2 : post (1 : Int32) := h
    show wpY_need post (nI P, nI S, nI R, nI Q, nI sz, nI d, nI rc, nI ci, nI co, nI st, nI pc, ops, args, stk, ret, yi, yo) 9
    simpa [wpY_need] using h2
  · intro post h
    have h2 : post (2 : Int32) := h
    show wpY_need post (nI P, nI S, nI R, nI Q, nI sz, nI d, nI rc, nI ci, nI co, nI st, nI pc, ops, args, stk, ret, yi, yo) 10
    simpa [wpY_need] using h2
  · intro post h
    have h2 : post (2 : Int32) := h
    show wpY_need post (nI P, nI S, nI R, nI Q, nI sz, nI d, nI rc, nI ci, nI co, nI st, nI pc, ops, args, stk, ret, yi, yo) 11
    simpa [wpY_need] using h2
  · intro post h
    have h2 : post (2 : Int32) := h
    show wpY_need post (nI P, nI S, nI R, nI Q, nI sz, nI d, nI rc, nI ci, nI co, nI st, nI pc, ops, args, stk, ret, yi, yo) 12
    simpa [wpY_need] using h2
  · intro post h
    have h2 : post (2 : Int32) := h
    show wpY_need post (nI P, nI S, nI R, nI Q, nI sz, nI d, nI rc, nI ci, nI co, nI st, nI pc, ops, args, stk, ret, yi, yo) 13
    simpa [wpY_need] using h2
  · intro post h
    have h2 : post (2 : Int32) := h
    show wpY_need post (nI P, nI S, nI R, nI Q, nI sz, nI d, nI rc, nI ci, nI co, nI st, nI pc, ops, args, stk, ret, yi, yo) 14
    simpa [wpY_need] using h2
  · intro post h
    have h2 : post (0 : Int32) := h
    show wpY_need post (nI P, nI S, nI R, nI Q, nI sz, nI d, nI rc, nI ci, nI co, nI st, nI pc, ops, args, stk, ret, yi, yo) 15
    simpa [wpY_need] using h2
  · intro post h
    have h2 : post (1 : Int32) := h
    show wpY_need post (nI P, nI S, nI R, nI Q, nI sz, nI d, nI rc, nI ci, nI co, nI st, nI pc, ops, args, stk, ret, yi, yo) 16
    simpa [wpY_need] using h2
  · intro post h
    have h2 : post (0 : Int32) := h
    show wpY_need post (nI P, nI S, nI R, nI Q, nI sz, nI d, nI rc, nI ci, nI co, nI st, nI pc, ops, args, stk, ret, yi, yo) 17
    simpa [wpY_need] using h2
  · intro post h
    have h2 : post (1 : Int32) := h
    show wpY_need post (nI P, nI S, nI R, nI Q, nI sz, nI d, nI rc, nI ci, nI co, nI st, nI pc, ops, args, stk, ret, yi, yo) 18
    simpa [wpY_need] using h2
  · intro post h
    have h2 : post (0 : Int32) := h
    show wpY_need post (nI P, nI S, nI R, nI Q, nI sz, nI d, nI rc, nI ci, nI co, nI st, nI pc, ops, args, stk, ret, yi, yo) 19
    simpa [wpY_need] using h2
  · intro post h
    have h2 : post (0 : Int32) := h
    show wpY_need post (nI P, nI S, nI R, nI Q, nI sz, nI d, nI rc, nI ci, nI co, nI st, nI pc, ops, args, stk, ret, yi, yo) 20
    simpa [wpY_need] using h2
theorem sy_growth : ∀ o, o ≤ 20 → ∀ post : Int32 → Prop, post (sc_gI o) → wpY_growth post (nI P, nI S, nI R, nI Q, nI sz, nI d, nI rc, nI ci, nI co, nI st, nI pc, ops, args, stk, ret, yi, yo) (nI o) := by
  refine sc_21 (P := fun o => ∀ post : Int32 → Prop, post (sc_gI o) → wpY_growth post (nI P, nI S, nI R, nI Q, nI sz, nI d, nI rc, nI ci, nI co, nI st, nI pc, ops, args, stk, ret, yi, yo) (nI o)) ?_ ?_ ?_ ?_ ?_ ?_ ?_ ?_ ?_ ?_ ?_ ?_ ?_ ?_ ?_ ?_ ?_ ?_ ?_ ?_ ?_
  · intro post h
    have h2 : post (0 : Int32) := h
    show wpY_growth post (nI P, nI S, nI R, nI Q, nI sz, nI d, nI rc, nI ci, nI co, nI st, nI pc, ops, args, stk, ret, yi, yo) 0
    simpa [wpY_growth, wY_growth_52] using h2
  · intro post h
    have h2 : post (1 : Int32) := h
    show wpY_growth post (nI P, nI S, nI R, nI Q, nI sz, nI d, nI rc, nI ci, nI co, nI st, nI pc, ops, args, stk, ret, yi, yo) 1
    simpa [wpY_growth, wY_growth_52] using h2
  · intro post h
    have h2 : post (1 : Int32) := h
    show wpY_growth post (nI P, nI S, nI R, nI Q, nI sz, nI d, nI rc, nI ci, nI co, nI st, nI pc, ops, args, stk, ret, yi, yo) 2
    simpa [wpY_growth, wY_growth_52] using h2
  · intro post h
    have h2 : post (-1 : Int32) := h
    show wpY_growth post (nI P, nI S, nI R, nI Q, nI sz, nI d, nI rc, nI ci, nI co, nI st, nI pc, ops, args, stk, ret, yi, yo) 3
    simpa [wpY_growth, wY_growth_52] using h2
  · intro post h
    have h2 : post (0 : Int32) := h
    show wpY_growth post (nI P, nI S, nI R, nI Q, nI sz, nI d, nI rc, nI ci, nI co, nI st, nI pc, ops, args, stk, ret, yi, yo) 4
    simpa [wpY_growth, wY_growth_52] using h2
  · intro post h
    have h2 : post (1 : Int32) := h
    show wpY_growth post (nI P, nI S, nI R, nI Q, nI sz, nI d, nI rc, nI ci, nI co, nI st, nI pc, ops, args, stk, ret, yi, yo) 5
    simpa [wpY_growth, wY_growth_52] using h2
  · intro post h
    have h2 : post (0 : Int32) := h
    show wpY_growth post (nI P, nI S, nI R, nI Q, nI sz, nI d, nI rc, nI ci, nI co, nI st, nI pc, ops, args, stk, ret, yi, yo) 6
    simpa [wpY_growth, wY_growth_52] using h2
  · intro post h
    have h2 : post (-1 : Int32) := h
    show wpY_growth post (nI P, nI S, nI R, nI Q, nI sz, nI d, nI rc, nI ci, nI co, nI st, nI pc, ops, args, stk, ret, yi, yo) 7
    simpa [wpY_growth, wY_growth_52] using h2
  · intro post h
    have h2 : post (1 : Int32) := h
    show wpY_growth post (nI P, nI S, nI R, nI Q, nI sz, nI d, nI rc, nI ci, nI co, nI st, nI pc, ops, args, stk, ret, yi, yo) 8
    simpa [wpY_growth, wY_growth_52] using h2
  · intro post h
    have h2 : post (0 : Int32) := h
    show wpY_growth post (nI P, nI S, nI R, nI Q, nI sz, nI d, nI rc, nI ci, nI co, nI st, nI pc, ops, args, stk, ret, yi, yo) 9
    simpa [wpY_growth, wY_growth_52] using h2
  · intro post h
    have h2 : post (-1 : Int32) := h
    show wpY_growth post (nI P, nI S, nI R, nI Q, nI sz, nI d, nI rc, nI ci, nI co, nI st, nI pc, ops, args, stk, ret, yi, yo) 10
    simpa [wpY_growth, wY_growth_52] using h2
  · intro post h
    have h2 : post (-1 : Int32) := h
    show wpY_growth post (nI P, nI S, nI R, nI Q, nI sz, nI d, nI rc, nI ci, nI co, nI st, nI pc, ops, args, stk, ret, yi, yo) 11
    simpa [wpY_growth, wY_growth_52] using h2
  · intro post h
    have h2 : post (-1 : Int32) := h
    show wpY_growth post (nI P, nI S, nI R, nI Q, nI sz, nI d, nI rc, nI ci, nI co, nI st, nI pc, ops, args, stk, ret, yi, yo) 12
    simpa [wpY_growth, wY_growth_52] using h2
  · intro post h
    have h2 : post (-1 : Int32) := h
    show wpY_growth post (nI P, nI S, nI R, nI Q, nI sz, nI d, nI rc, nI ci, nI co, nI st, nI pc, ops, args, stk, ret, yi, yo) 13
    simpa [wpY_growth, wY_growth_52] using h2
  · intro post h
    have h2 : post (-1 : Int32) := h
    show wpY_growth post (nI P, nI S, nI R, nI Q, nI sz, nI d, nI rc, nI ci, nI co, nI st, nI pc, ops, args, stk, ret, yi, yo) 14
    simpa [wpY_growth, wY_growth_52] using h2
  · intro post h
    have h2 : post (1 : Int32) := h
    show wpY_growth post (nI P, nI S, nI R, nI Q, nI sz, nI d, nI rc, nI ci, nI co, nI st, nI pc, ops, args, stk, ret, yi, yo) 15
    simpa [wpY_growth, wY_growth_52] using h2
  · intro post h
    have h2 : post (-1 : Int32) := h
    show wpY_growth post (nI P, nI S, nI R, nI Q, nI sz, nI d, nI rc, nI ci, nI co, nI st, nI pc, ops, args, stk, ret, yi, yo) 16
    simpa [wpY_growth, wY_growth_52] using h2
  · intro post h
    have h2 : post (0 : Int32) := h
    show wpY_growth post (nI P, nI S, nI R, nI Q, nI sz, nI d, nI rc, nI ci, nI co, nI st, nI pc, ops, args, stk, ret, yi, yo) 17
    simpa [wpY_growth, wY_growth_52] using h2
  · intro post h
    have h2 : post (-1 : Int32) := h
    show wpY_growth post (nI P, nI S, nI R, nI Q, nI sz, nI d, nI rc, nI ci, nI co, nI st, nI pc, ops, args, stk, ret, yi, yo) 18
    simpa [wpY_growth, wY_growth_52] using h2
  · intro post h
    have h2 : post (0 : Int32) := h
    show wpY_growth post (nI P, nI S, nI R, nI Q, nI sz, nI d, nI rc, nI ci, nI co, nI st, nI pc, ops, args, stk, ret, yi, yo) 19
    simpa [wpY_growth, wY_growth_52] using h2
  · intro post h
    have h2 : post (0 : Int32) := h
    show wpY_growth post (nI P, nI S, nI R, nI Q, nI sz, nI d, nI rc, nI ci, nI co, nI st, nI pc, ops, args, stk, ret, yi, yo) 20
    simpa [wpY_growth, wY_growth_52] using h2
theorem sc_nd_le (o : Nat) : sc_nd o ≤ 3 := by
  unfold sc_nd
  repeat' split
  all_goals omega
theorem sc_gr_le (o : Nat) : sc_gr o ≤ 2 := by
  unfold sc_gr
  repeat' split
  all_goals omega
/-! what hinders, X -/
theorem sx_h82 (post : Int32 → Prop) {o : Nat} (ho : o ≤ 20) (hb : co ≤ 8 ∧ Q ≤ 8) (h1 : o = 16 → Q ≤ co → post 8) (h2 : ¬ (o = 16 ∧ Q ≤ co) → post 1) : wX_findHindrance_82 post (nI o) (nI P) (nI S) (nI R) (nI Q) (nI st) (nI pc) (nI sz) (nI d) (nI rc) (nI fi) (nI ci) (nI fo) (nI co) ops args stk ret xi xo :=
  pk_eq o 16 (fun c => pk_lt co Q (fun c2 => h2 (by omega)) (fun c2 => h1 c c2)) (fun c => h2 (by omega))
theorem sx_h66 (post : Int32 → Prop) {o : Nat} (ho : o ≤ 20) (hb : ci ≤ 8) (h1 : o = 15 → ci = 0 → post 7) (h2 : ¬ (o = 15 ∧ ci = 0) → wX_findHindrance_82 post (nI o) (nI P) (nI S) (nI R) (nI Q) (nI st) (nI pc) (nI sz) (nI d) (nI rc) (nI fi) (nI ci) (nI fo) (nI co) ops args stk ret xi xo) : wX_findHindrance_66 post (nI o) (nI P) (nI S) (nI R) (nI Q) (nI st) (nI pc) (nI sz) (nI d) (nI rc) (nI fi) (nI ci) (nI fo) (nI co) ops args stk ret xi xo :=
  pk_eq o 15 (fun c => pk_eq ci 0 (fun c2 => h1 c c2) (fun c2 => h2 (by omega))) (fun c => h2 (by omega))
theorem sx_h51 (post : Int32 → Prop) {o : Nat} (ho : o ≤ 20) (hb : rc ≤ 8) (h1 : o = 20 → rc = 0 → post 5) (h2 : ¬ (o = 20 ∧ rc = 0) → wX_findHindrance_66 post (nI o) (nI P) (nI S) (nI R) (nI Q) (nI st) (nI pc) (nI sz) (nI d) (nI rc) (nI fi) (nI ci) (nI fo) (nI co) ops args stk ret xi xo) : wX_findHindrance_51 post (nI o) (nI P) (nI S) (nI R) (nI Q) (nI st) (nI pc) (nI sz) (nI d) (nI rc) (nI fi) (nI ci) (nI fo) (nI co) ops args stk ret xi xo :=
  pk_eq o 20 (fun c => pk_eq rc 0 (fun c2 => h1 c c2) (fun c2 => h2 (by omega))) (fun c => h2 (by omega))
theorem sx_hin (post : Int32 → Prop) {o : Nat} (ho : o ≤ 20) (hb : S ≤ 32 ∧ R ≤ 8 ∧ Q ≤ 8 ∧ d ≤ S ∧ rc ≤ R ∧ ci ≤ Q ∧ co ≤ Q) (h : ∀ k, sc_hin o d S rc R ci co Q = k → post (nI k)) : wpX_findHindrance post (nI P, nI S, nI R, nI Q, nI st, nI pc, nI sz, nI d, nI rc, nI fi, nI ci, nI fo, nI co, ops, args, stk, ret, xi, xo) (nI o) := by
  have hn := sc_nd_le o
  have hg := sc_gr_le o
  unfold wpX_findHindrance
  refine sx_need o ho _ ?_
  refine pk_le (sc_nd o) d (fun c => ?_) (fun c => h 3 ?_) rfl rfl (by omega) (by omega)
  · refine sx_growth o ho _ ?_
    refine pk_le (d + sc_gr o - 1) S (fun c2 => ?_) (fun c2 => h 4 ?_) (sc_dg ho c) rfl (by omega) (by omega)
    · have J : ¬ (o = 19 ∧ R ≤ rc) → wX_findHindrance_51 post (nI o) (nI P) (nI S) (nI R) (nI Q) (nI st) (nI pc) (nI sz) (nI d) (nI rc) (nI fi) (nI ci) (nI fo) (nI co) ops args stk ret xi xo := fun c3 => by
        refine sx_h51 post ho (by omega) (fun a b => h 5 ?_) (fun c4 => sx_h66 post ho (by omega) (fun a b => h 7 ?_) (fun c5 => sx_h82 post ho (by omega) (fun a b => h 8 ?_) (fun c6 => h 1 ?_)))
        all_goals
          unfold sc_hin
          repeat' split
          all_goals omega
      refine pk_eq o 19 (fun c3 => pk_lt rc R (fun c4 => J (by omega)) (fun c4 => h 6 ?_) rfl rfl (by omega) (by omega)) (fun c3 => J (by omega)) rfl rfl (by omega) (by omega)
      unfold sc_hin
      repeat' split
      all_goals omega
    · unfold sc_hin
      repeat' split
      all_goals omega
  · unfold sc_hin
    repeat' split
    all_goals omega
/-! what hinders, Y -/
theorem sy_h118 (post : Int32 → SY → Prop) {o n : Nat} (ho : o ≤ 20) (hb : co ≤ 8 ∧ Q ≤ 8) (h1 : o = 16 → Q ≤ co → post 8 (nI P, nI S, nI R, nI Q, nI sz, nI d, nI rc, nI ci, nI co, nI st, nI pc, ops, args, stk, ret, yi, yo)) (h2 : ¬ (o = 16 ∧ Q ≤ co) → wY_step_138 post (nI o) (nI n) (nI P) (nI S) (nI R) (nI Q) (nI sz) (nI d) (nI rc) (nI ci) (nI co) (nI st) (nI pc) ops args stk ret yi yo) : wY_step_118 post (nI o) (nI n) (nI P) (nI S) (nI R) (nI Q) (nI sz) (nI d) (nI rc) (nI ci) (nI co) (nI st) (nI pc) ops args stk ret yi yo :=
  pk_eq o 16 (fun c => pk_lt co Q (fun c2 => h2 (by omega)) (fun c2 => h1 c c2)) (fun c => h2 (by omega))
theorem sy_h102 (post : Int32 → SY → Prop) {o n : Nat} (ho : o ≤ 20) (hb : ci ≤ 8) (h1 : o = 15 → ci = 0 → post 7 (nI P, nI S, nI R, nI Q, nI sz, nI d, nI rc, nI ci, nI co, nI st, nI pc, ops, args, stk, ret, yi, yo)) (h2 : ¬ (o = 15 ∧ ci = 0) → wY_step_118 post (nI o) (nI n) (nI P) (nI S) (nI R) (nI Q) (nI sz) (nI d) (nI rc) (nI ci) (nI co) (nI st) (nI pc) ops args stk ret yi yo) : wY_step_102 post (nI o) (nI n) (nI P) (nI S) (nI R) (nI Q) (nI sz) (nI d) (nI rc) (nI ci) (nI co) (nI st) (nI pc) ops args stk ret yi yo :=
  pk_eq o 15 (fun c => pk_eq ci 0 (fun c2 => h1 c c2) (fun c2 => h2 (by omega))) (fun c => h2 (by omega))
theorem sy_h87 (post : Int32 → SY → Prop) {o n : Nat} (ho : o ≤ 20) (hb : rc ≤ 8) (h1 : o = 20 → rc = 0 → post 5 (nI P, nI S, nI R, nI Q, nI sz, nI d, nI rc, nI ci, nI co, nI st, nI pc, ops, args, stk, ret, yi, yo)) (h2 : ¬ (o = 20 ∧ rc = 0) → wY_step_102 post (nI o) (nI n) (nI P) (nI S) (nI R) (nI Q) (nI sz) (nI d) (nI rc) (nI ci) (nI co) (nI st) (nI pc) ops args stk ret yi yo) : wY_step_87 post (nI o) (nI n) (nI P) (nI S) (nI R) (nI Q) (nI sz) (nI d) (nI rc) (nI ci) (nI co) (nI st) (nI pc) ops args stk ret yi yo :=
  pk_eq o 20 (fun c => pk_eq rc 0 (fun c2 => h1 c c2) (fun c2 => h2 (by omega))) (fun c => h2 (by omega))
theorem sy_step (post : Int32 → SY → Prop) {o : Nat} (ho : o ≤ 20) (hb : S ≤ 32 ∧ R ≤ 8 ∧ Q ≤ 8 ∧ d ≤ S ∧ rc ≤ R ∧ ci ≤ Q ∧ co ≤ Q) (hs : sz ≤ 24) (hpc : pc < sz) (hop : ops pc = nI o) (h1 : sc_hin o d S rc R ci co Q = 1 → wY_step_138 post (nI o) (nI (sc_nd o)) (nI P) (nI S) (nI R) (nI Q) (nI sz) (nI d) (nI rc) (nI ci) (nI co) (nI st) (nI pc) ops args stk ret yi yo) (h : ∀ k, sc_hin o d S rc R ci co Q = k → k ≠ 1 → post (nI k) (nI P, nI S, nI R, nI Q, nI sz, nI d, nI rc, nI ci, nI co, nI st, nI pc, ops, args, stk, ret, yi, yo)) : wpY_step post (nI P, nI S, nI R, nI Q, nI sz, nI d, nI rc, nI ci, nI co, nI st, nI pc, ops, args, stk, ret, yi, yo) := by
  have hn := sc_nd_le o
  have hg := sc_gr_le o
  unfold wpY_step
  refine br_f (nI_pos (by omega)) (br_t (nI_lt hpc (by omega)) ⟨vp_in_nI (by omega) (by omega), nm_r (e' := nI o) (by rw [nI_clamp (by omega)]; exact hop) ?_⟩)
  refine sy_need o ho _ ?_
  refine sy_growth o ho _ ?_
  refine pk_le (sc_nd o) d (fun c => ?_) (fun c => h 3 ?_ (by decide)) rfl rfl (by omega) (by omega)
  · refine pk_le (d + sc_gr o - 1) S (fun c2 => ?_) (fun c2 => h 4 ?_ (by decide)) (sc_dg ho c) rfl (by omega) (by omega)
    · have J : ¬ (o = 19 ∧ R ≤ rc) → wY_step_87 post (nI o) (nI (sc_nd o)) (nI P) (nI S) (nI R) (nI Q) (nI sz) (nI d) (nI rc) (nI ci) (nI co) (nI st) (nI pc) ops args stk ret yi yo := fun c3 => by
        refine sy_h87 post ho (by omega) (fun a b => h 5 ?_ (by decide)) (fun c4 => sy_h102 post ho (by omega) (fun a b => h 7 ?_ (by decide)) (fun c5 => sy_h118 post ho (by omega) (fun a b => h 8 ?_ (by decide)) (fun c6 => h1 ?_)))
        all_goals
          unfold sc_hin
          repeat' split
          all_goals omega
      refine pk_eq o 19 (fun c3 => pk_lt rc R (fun c4 => J (by omega)) (fun c4 => h 6 ?_ (by decide)) rfl rfl (by omega) (by omega)) (fun c3 => J (by omega)) rfl rfl (by omega) (by omega)
      unfold sc_hin
      repeat' split
      all_goals omega
    · unfold sc_hin
      repeat' split
      all_goals omega
  · unfold sc_hin
    repeat' split
    all_goals omega
theorem sc_hin_r (o d S rc R ci co Q : Nat) : sc_hin o d S rc R ci co Q = 1 ∨ (3 ≤ sc_hin o d S rc R ci co Q ∧ sc_hin o d S rc R ci co Q ≤ 6) ∨ sc_hin o d S rc R ci co Q = 7 ∨ sc_hin o d S rc R ci co Q = 8 := by
  unfold sc_hin
  repeat' split
  all_goals omega
theorem sc_hin_1 {o d S rc R ci co Q : Nat} (h : sc_hin o d S rc R ci co Q = 1) : sc_nd o ≤ d ∧ d + sc_gr o - 1 ≤ S ∧ ¬ (o = 19 ∧ R ≤ rc) ∧ ¬ (o = 20 ∧ rc = 0) ∧ ¬ (o = 15 ∧ ci = 0) ∧ ¬ (o = 16 ∧ Q ≤ co) := by
  unfold sc_hin at h
  repeat' split at h
  all_goals omega
end SCH
