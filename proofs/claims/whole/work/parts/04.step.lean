section SCS
variable {P S R Q st pc sz d rc fi ci fo co : Nat} {ops args stk ret xi xo yi yo : Nat → Int32}
theorem sc_fin (o pc' d' rc' fi' ci' fo' co' : Nat) (stk' ret' xo' yi' yo' : Nat → Int32) (I : sc_I 1 pc P S R Q sz d rc fi ci fo co ops args ret xi xo yi yo) (ho : o ≤ 20) (hop : ops pc = nI o) (hh : sc_hin o d S rc R ci co Q = 1) (I' : sc_I 1 pc' P S R Q sz d' rc' fi' ci' fo' co' ops args ret' xi xo' yi' yo') (hx : ∀ post : Int32 → SX → Prop, post 1 (nI P, nI S, nI R, nI Q, nI 1, nI pc', nI sz, nI d', nI rc', nI fi', nI ci', nI fo', nI co', ops, args, stk', ret', xi, xo') → wpX_executeOne post (nI P, nI S, nI R, nI Q, nI 1, nI pc, nI sz, nI d, nI rc, nI fi, nI ci, nI fo, nI co, ops, args, stk, ret, xi, xo)) (hy : ∀ post : Int32 → SY → Prop, post 1 (nI P, nI S, nI R, nI Q, nI sz, nI d', nI rc', nI ci', nI co', nI 1, nI pc', ops, args, stk', ret', yi', yo') → wY_step_138 post (nI o) (nI (sc_nd o)) (nI P) (nI S) (nI R) (nI Q) (nI sz) (nI d) (nI rc) (nI ci) (nI co) (nI 1) (nI pc) ops args stk ret yi yo) : ∃ (r : Int32) (s : Nat) (u' : SX) (v' : SY), (∀ post : Int32 → SX → Prop, post r u' → wpX_executeOne post (nI P, nI S, nI R, nI Q, nI 1, nI pc, nI sz, nI d, nI rc, nI fi, nI ci, nI fo, nI co, ops, args, stk, ret, xi, xo)) ∧ (∀ post : Int32 → SY → Prop, post r v' → wpY_step post (nI P, nI S, nI R, nI Q, nI sz, nI d, nI rc, nI ci, nI co, nI 1, nI pc, ops, args, stk, ret, yi, yo)) ∧ sc_J s 1 u' v' ∧ ((r = nI s ∧ 1 ≤ s ∧ s ≤ 6) ∨ (s = 1 ∧ (r = 7 ∨ r = 8))) := by
  obtain ⟨hb, _, _, _, hr⟩ := I
  obtain ⟨hpc, _⟩ := hr rfl
  exact ⟨1, 1, _, _, hx, fun post h => sy_step post ho (by omega) (by omega) hpc hop (fun _ => hy post h) (fun k e1 e2 => absurd (e1.symm.trans hh) e2), ⟨pc', P, S, R, Q, sz, d', rc', fi', ci', fo', co', ops, args, stk', ret', xi, xo', yi', yo', rfl, rfl, I'⟩, Or.inl ⟨rfl, by decide, by decide⟩⟩
theorem sc_g1 (I : sc_I 1 pc P S R Q sz d rc fi ci fo co ops args ret xi xo yi yo) (hop : ops pc = nI 1) (hh : sc_hin 1 d S rc R ci co Q = 1) : ∃ (r : Int32) (s : Nat) (u' : SX) (v' : SY), (∀ post : Int32 → SX → Prop, post r u' → wpX_executeOne post (nI P, nI S, nI R, nI Q, nI 1, nI pc, nI sz, nI d, nI rc, nI fi, nI ci, nI fo, nI co, ops, args, stk, ret, xi, xo)) ∧ (∀ post : Int32 → SY → Prop, post r v' → wpY_step post (nI P, nI S, nI R, nI Q, nI sz, nI d, nI rc, nI ci, nI co, nI 1, nI pc, ops, args, stk, ret, yi, yo)) ∧ sc_J s 1 u' v' ∧ ((r = nI s ∧ 1 ≤ s ∧ s ≤ 6) ∨ (s = 1 ∧ (r = 7 ∨ r = 8))) := by
  have h1 := sc_hin_1 hh
  have e1 : sc_nd 1 = 0 := rfl
  have e2 : sc_gr 1 = 2 := rfl
  have I0 := I
  obtain ⟨hb, hRi, hRo, hO, hr⟩ := I0
  obtain ⟨hpc, hE, hT, hQ⟩ := hr rfl
  have hn := sc_nxt hE hpc hop (by decide) (by decide) (by decide) (by decide)
  obtain ⟨e, rfl⟩ : ∃ e, e = d := ⟨d, rfl⟩
  exact sc_fin 1 (pc + 1) (e + 1) rc fi ci fo co (upd stk e (args pc)) ret xo yi yo I (by decide) hop hh ⟨by omega, hRi, hRo, hO, fun _ => ⟨hn, hE, hT, hQ⟩⟩ (fun post h => sx_o1 post (by omega) hop (by omega) (by omega) hh h) (fun post h => sy_o1 post (by omega) (by omega) (by omega) (by omega) h)
theorem sc_g2 (I : sc_I 1 pc P S R Q sz d rc fi ci fo co ops args ret xi xo yi yo) (hop : ops pc = nI 2) (hh : sc_hin 2 d S rc R ci co Q = 1) : ∃ (r : Int32) (s : Nat) (u' : SX) (v' : SY), (∀ post : Int32 → SX → Prop, post r u' → wpX_executeOne post (nI P, nI S, nI R, nI Q, nI 1, nI pc, nI sz, nI d, nI rc, nI fi, nI ci, nI fo, nI co, ops, args, stk, ret, xi, xo)) ∧ (∀ post : Int32 → SY → Prop, post r v' → wpY_step post (nI P, nI S, nI R, nI Q, nI sz, nI d, nI rc, nI ci, nI co, nI 1, nI pc, ops, args, stk, ret, yi, yo)) ∧ sc_J s 1 u' v' ∧ ((r = nI s ∧ 1 ≤ s ∧ s ≤ 6) ∨ (s = 1 ∧ (r = 7 ∨ r = 8))) := by
  have h1 := sc_hin_1 hh
  have e1 : sc_nd 2 = 1 := rfl
  have e2 : sc_gr 2 = 2 := rfl
  have I0 := I
  obtain ⟨hb, hRi, hRo, hO, hr⟩ := I0
  obtain ⟨hpc, hE, hT, hQ⟩ := hr rfl
  have hn := sc_nxt hE hpc hop (by decide) (by decide) (by decide) (by decide)
  obtain ⟨e, rfl⟩ : ∃ e, d = e + 1 := ⟨d - 1, by omega⟩
  exact sc_fin 2 (pc + 1) (e + 2) rc fi ci fo co (upd stk (e + 1) (stk e)) ret xo yi yo I (by decide) hop hh ⟨by omega, hRi, hRo, hO, fun _ => ⟨hn, hE, hT, hQ⟩⟩ (fun post h => sx_o2 post (by omega) hop (by omega) (by omega) hh h) (fun post h => sy_o2 post (by omega) (by omega) (by omega) (by omega) (by rw [sc_uid]; exact h))
theorem sc_g3 (I : sc_I 1 pc P S R Q sz d rc fi ci fo co ops args ret xi xo yi yo) (hop : ops pc = nI 3) (hh : sc_hin 3 d S rc R ci co Q = 1) : ∃ (r : Int32) (s : Nat) (u' : SX) (v' : SY), (∀ post : Int32 → SX → Prop, post r u' → wpX_executeOne post (nI P, nI S, nI R, nI Q, nI 1, nI pc, nI sz, nI d, nI rc, nI fi, nI ci, nI fo, nI co, ops, args, stk, ret, xi, xo)) ∧ (∀ post : Int32 → SY → Prop, post r v' → wpY_step post (nI P, nI S, nI R, nI Q, nI sz, nI d, nI rc, nI ci, nI co, nI 1, nI pc, ops, args, stk, ret, yi, yo)) ∧ sc_J s 1 u' v' ∧ ((r = nI s ∧ 1 ≤ s ∧ s ≤ 6) ∨ (s = 1 ∧ (r = 7 ∨ r = 8))) := by
  have h1 := sc_hin_1 hh
  have e1 : sc_nd 3 = 1 := rfl
  have e2 : sc_gr 3 = 0 := rfl
  have I0 := I
  obtain ⟨hb, hRi, hRo, hO, hr⟩ := I0
  obtain ⟨hpc, hE, hT, hQ⟩ := hr rfl
  have hn := sc_nxt hE hpc hop (by decide) (by decide) (by decide) (by decide)
  obtain ⟨e, rfl⟩ : ∃ e, d = e + 1 := ⟨d - 1, by omega⟩
  exact sc_fin 3 (pc + 1) e rc fi ci fo co (stk) ret xo yi yo I (by decide) hop hh ⟨by omega, hRi, hRo, hO, fun _ => ⟨hn, hE, hT, hQ⟩⟩ (fun post h => sx_o3 post (by omega) hop (by omega) (by omega) hh h) (fun post h => sy_o3 post (by omega) (by omega) (by omega) (by omega) h)
theorem sc_g4 (I : sc_I 1 pc P S R Q sz d rc fi ci fo co ops args ret xi xo yi yo) (hop : ops pc = nI 4) (hh : sc_hin 4 d S rc R ci co Q = 1) : ∃ (r : Int32) (s : Nat) (u' : SX) (v' : SY), (∀ post : Int32 → SX → Prop, post r u' → wpX_executeOne post (nI P, nI S, nI R, nI Q, nI 1, nI pc, nI sz, nI d, nI rc, nI fi, nI ci, nI fo, nI co, ops, args, stk, ret, xi, xo)) ∧ (∀ post : Int32 → SY → Prop, post r v' → wpY_step post (nI P, nI S, nI R, nI Q, nI sz, nI d, nI rc, nI ci, nI co, nI 1, nI pc, ops, args, stk, ret, yi, yo)) ∧ sc_J s 1 u' v' ∧ ((r = nI s ∧ 1 ≤ s ∧ s ≤ 6) ∨ (s = 1 ∧ (r = 7 ∨ r = 8))) := by
  have h1 := sc_hin_1 hh
  have e1 : sc_nd 4 = 2 := rfl
  have e2 : sc_gr 4 = 1 := rfl
  have I0 := I
  obtain ⟨hb, hRi, hRo, hO, hr⟩ := I0
  obtain ⟨hpc, hE, hT, hQ⟩ := hr rfl
  have hn := sc_nxt hE hpc hop (by decide) (by decide) (by decide) (by decide)
  obtain ⟨e, rfl⟩ : ∃ e, d = e + 2 := ⟨d - 2, by omega⟩
  exact sc_fin 4 (pc + 1) (e + 2) rc fi ci fo co (upd (upd stk e (stk (e + 1))) (e + 1) (stk e)) ret xo yi yo I (by decide) hop hh ⟨by omega, hRi, hRo, hO, fun _ => ⟨hn, hE, hT, hQ⟩⟩ (fun post h => sx_o4 post (by omega) hop (by omega) (by omega) hh h) (fun post h => sy_o4 post (by omega) (by omega) (by omega) (by omega) h)
theorem sc_g5 (I : sc_I 1 pc P S R Q sz d rc fi ci fo co ops args ret xi xo yi yo) (hop : ops pc = nI 5) (hh : sc_hin 5 d S rc R ci co Q = 1) : ∃ (r : Int32) (s : Nat) (u' : SX) (v' : SY), (∀ post : Int32 → SX → Prop, post r u' → wpX_executeOne post (nI P, nI S, nI R, nI Q, nI 1, nI pc, nI sz, nI d, nI rc, nI fi, nI ci, nI fo, nI co, ops, args, stk, ret, xi, xo)) ∧ (∀ post : Int32 → SY → Prop, post r v' → wpY_step post (nI P, nI S, nI R, nI Q, nI sz, nI d, nI rc, nI ci, nI co, nI 1, nI pc, ops, args, stk, ret, yi, yo)) ∧ sc_J s 1 u' v' ∧ ((r = nI s ∧ 1 ≤ s ∧ s ≤ 6) ∨ (s = 1 ∧ (r = 7 ∨ r = 8))) := by
  have h1 := sc_hin_1 hh
  have e1 : sc_nd 5 = 2 := rfl
  have e2 : sc_gr 5 = 2 := rfl
  have I0 := I
  obtain ⟨hb, hRi, hRo, hO, hr⟩ := I0
  obtain ⟨hpc, hE, hT, hQ⟩ := hr rfl
  have hn := sc_nxt hE hpc hop (by decide) (by decide) (by decide) (by decide)
  obtain ⟨e, rfl⟩ : ∃ e, d = e + 2 := ⟨d - 2, by omega⟩
  exact sc_fin 5 (pc + 1) (e + 3) rc fi ci fo co (upd (upd (upd stk e (stk e)) (e + 1) (stk (e + 1))) (e + 2) (stk e)) ret xo yi yo I (by decide) hop hh ⟨by omega, hRi, hRo, hO, fun _ => ⟨hn, hE, hT, hQ⟩⟩ (fun post h => sx_o5 post (by omega) hop (by omega) (by omega) hh h) (fun post h => sy_o5 post (by omega) (by omega) (by omega) (by omega) h)
theorem sc_g6 (I : sc_I 1 pc P S R Q sz d rc fi ci fo co ops args ret xi xo yi yo) (hop : ops pc = nI 6) (hh : sc_hin 6 d S rc R ci co Q = 1) : ∃ (r : Int32) (s : Nat) (u' : SX) (v' : SY), (∀ post : Int32 → SX → Prop, post r u' → wpX_executeOne post (nI P, nI S, nI R, nI Q, nI 1, nI pc, nI sz, nI d, nI rc, nI fi, nI ci, nI fo, nI co, ops, args, stk, ret, xi, xo)) ∧ (∀ post : Int32 → SY → Prop, post r v' → wpY_step post (nI P, nI S, nI R, nI Q, nI sz, nI d, nI rc, nI ci, nI co, nI 1, nI pc, ops, args, stk, ret, yi, yo)) ∧ sc_J s 1 u' v' ∧ ((r = nI s ∧ 1 ≤ s ∧ s ≤ 6) ∨ (s = 1 ∧ (r = 7 ∨ r = 8))) := by
  have h1 := sc_hin_1 hh
  have e1 : sc_nd 6 = 3 := rfl
  have e2 : sc_gr 6 = 1 := rfl
  have I0 := I
  obtain ⟨hb, hRi, hRo, hO, hr⟩ := I0
  obtain ⟨hpc, hE, hT, hQ⟩ := hr rfl
  have hn := sc_nxt hE hpc hop (by decide) (by decide) (by decide) (by decide)
  obtain ⟨e, rfl⟩ : ∃ e, d = e + 3 := ⟨d - 3, by omega⟩
  exact sc_fin 6 (pc + 1) (e + 3) rc fi ci fo co (upd (upd (upd stk e (stk (e + 1))) (e + 1) (stk (e + 2))) (e + 2) (stk e)) ret xo yi yo I (by decide) hop hh ⟨by omega, hRi, hRo, hO, fun _ => ⟨hn, hE, hT, hQ⟩⟩ (fun post h => sx_o6 post (by omega) hop (by omega) (by omega) hh h) (fun post h => sy_o6 post (by omega) (by omega) (by omega) (by omega) h)
theorem sc_g7 (I : sc_I 1 pc P S R Q sz d rc fi ci fo co ops args ret xi xo yi yo) (hop : ops pc = nI 7) (hh : sc_hin 7 d S rc R ci co Q = 1) : ∃ (r : Int32) (s : Nat) (u' : SX) (v' : SY), (∀ post : Int32 → SX → Prop, post r u' → wpX_executeOne post (nI P, nI S, nI R, nI Q, nI 1, nI pc, nI sz, nI d, nI rc, nI fi, nI ci, nI fo, nI co, ops, args, stk, ret, xi, xo)) ∧ (∀ post : Int32 → SY → Prop, post r v' → wpY_step post (nI P, nI S, nI R, nI Q, nI sz, nI d, nI rc, nI ci, nI co, nI 1, nI pc, ops, args, stk, ret, yi, yo)) ∧ sc_J s 1 u' v' ∧ ((r = nI s ∧ 1 ≤ s ∧ s ≤ 6) ∨ (s = 1 ∧ (r = 7 ∨ r = 8))) := by
  have h1 := sc_hin_1 hh
  have e1 : sc_nd 7 = 2 := rfl
  have e2 : sc_gr 7 = 0 := rfl
  have I0 := I
  obtain ⟨hb, hRi, hRo, hO, hr⟩ := I0
  obtain ⟨hpc, hE, hT, hQ⟩ := hr rfl
  have hn := sc_nxt hE hpc hop (by decide) (by decide) (by decide) (by decide)
  obtain ⟨e, rfl⟩ : ∃ e, d = e + 2 := ⟨d - 2, by omega⟩
  exact sc_fin 7 (pc + 1) (e + 1) rc fi ci fo co (upd stk e (stk (e + 1))) ret xo yi yo I (by decide) hop hh ⟨by omega, hRi, hRo, hO, fun _ => ⟨hn, hE, hT, hQ⟩⟩ (fun post h => sx_o7 post (by omega) hop (by omega) (by omega) hh h) (fun post h => sy_o7 post (by omega) (by omega) (by omega) (by omega) h)
theorem sc_g8 (I : sc_I 1 pc P S R Q sz d rc fi ci fo co ops args ret xi xo yi yo) (hop : ops pc = nI 8) (hh : sc_hin 8 d S rc R ci co Q = 1) : ∃ (r : Int32) (s : Nat) (u' : SX) (v' : SY), (∀ post : Int32 → SX → Prop, post r u' → wpX_executeOne post (nI P, nI S, nI R, nI Q, nI 1, nI pc, nI sz, nI d, nI rc, nI fi, nI ci, nI fo, nI co, ops, args, stk, ret, xi, xo)) ∧ (∀ post : Int32 → SY → Prop, post r v' → wpY_step post (nI P, nI S, nI R, nI Q, nI sz, nI d, nI rc, nI ci, nI co, nI 1, nI pc, ops, args, stk, ret, yi, yo)) ∧ sc_J s 1 u' v' ∧ ((r = nI s ∧ 1 ≤ s ∧ s ≤ 6) ∨ (s = 1 ∧ (r = 7 ∨ r = 8))) := by
  have h1 := sc_hin_1 hh
  have e1 : sc_nd 8 = 2 := rfl
  have e2 : sc_gr 8 = 2 := rfl
  have I0 := I
  obtain ⟨hb, hRi, hRo, hO, hr⟩ := I0
  obtain ⟨hpc, hE, hT, hQ⟩ := hr rfl
  have hn := sc_nxt hE hpc hop (by decide) (by decide) (by decide) (by decide)
  obtain ⟨e, rfl⟩ : ∃ e, d = e + 2 := ⟨d - 2, by omega⟩
  exact sc_fin 8 (pc + 1) (e + 3) rc fi ci fo co (upd (upd (upd stk e (stk (e + 1))) (e + 1) (stk e)) (e + 2) (stk (e + 1))) ret xo yi yo I (by decide) hop hh ⟨by omega, hRi, hRo, hO, fun _ => ⟨hn, hE, hT, hQ⟩⟩ (fun post h => sx_o8 post (by omega) hop (by omega) (by omega) hh h) (fun post h => sy_o8 post (by omega) (by omega) (by omega) (by omega) h)
theorem sc_g9 (I : sc_I 1 pc P S R Q sz d rc fi ci fo co ops args ret xi xo yi yo) (hop : ops pc = nI 9) (hh : sc_hin 9 d S rc R ci co Q = 1) : ∃ (r : Int32) (s : Nat) (u' : SX) (v' : SY), (∀ post : Int32 → SX → Prop, post r u' → wpX_executeOne post (nI P, nI S, nI R, nI Q, nI 1, nI pc, nI sz, nI d, nI rc, nI fi, nI ci, nI fo, nI co, ops, args, stk, ret, xi, xo)) ∧ (∀ post : Int32 → SY → Prop, post r v' → wpY_step post (nI P, nI S, nI R, nI Q, nI sz, nI d, nI rc, nI ci, nI co, nI 1, nI pc, ops, args, stk, ret, yi, yo)) ∧ sc_J s 1 u' v' ∧ ((r = nI s ∧ 1 ≤ s ∧ s ≤ 6) ∨ (s = 1 ∧ (r = 7 ∨ r = 8))) := by
  have h1 := sc_hin_1 hh
  have e1 : sc_nd 9 = 1 := rfl
  have e2 : sc_gr 9 = 1 := rfl
  have I0 := I
  obtain ⟨hb, hRi, hRo, hO, hr⟩ := I0
  obtain ⟨hpc, hE, hT, hQ⟩ := hr rfl
  have hn := sc_nxt hE hpc hop (by decide) (by decide) (by decide) (by decide)
  obtain ⟨e, rfl⟩ : ∃ e, d = e + 1 := ⟨d - 1, by omega⟩
  exact sc_fin 9 (pc + 1) (e + 1) rc fi ci fo co (upd stk e (stk e + args pc)) ret xo yi yo I (by decide) hop hh ⟨by omega, hRi, hRo, hO, fun _ => ⟨hn, hE, hT, hQ⟩⟩ (fun post h => sx_o9 post (by omega) hop (by omega) (by omega) hh h) (fun post h => sy_o9 post (by omega) (by omega) (by omega) (by omega) h)
theorem sc_g10 (I : sc_I 1 pc P S R Q sz d rc fi ci fo co ops args ret xi xo yi yo) (hop : ops pc = nI 10) (hh : sc_hin 10 d S rc R ci co Q = 1) : ∃ (r : Int32) (s : Nat) (u' : SX) (v' : SY), (∀ post : Int32 → SX → Prop, post r u' → wpX_executeOne post (nI P, nI S, nI R, nI Q, nI 1, nI pc, nI sz, nI d, nI rc, nI fi, nI ci, nI fo, nI co, ops, args, stk, ret, xi, xo)) ∧ (∀ post : Int32 → SY → Prop, post r v' → wpY_step post (nI P, nI S, nI R, nI Q, nI sz, nI d, nI rc, nI ci, nI co, nI 1, nI pc, ops, args, stk, ret, yi, yo)) ∧ sc_J s 1 u' v' ∧ ((r = nI s ∧ 1 ≤ s ∧ s ≤ 6) ∨ (s = 1 ∧ (r = 7 ∨ r = 8))) := by
  have h1 := sc_hin_1 hh
  have e1 : sc_nd 10 = 2 := rfl
  have e2 : sc_gr 10 = 0 := rfl
  have I0 := I
  obtain ⟨hb, hRi, hRo, hO, hr⟩ := I0
  obtain ⟨hpc, hE, hT, hQ⟩ := hr rfl
  have hn := sc_nxt hE hpc hop (by decide) (by decide) (by decide) (by decide)
  obtain ⟨e, rfl⟩ : ∃ e, d = e + 2 := ⟨d - 2, by omega⟩
  exact sc_fin 10 (pc + 1) (e + 1) rc fi ci fo co (upd stk e ((stk e) + (stk (e + 1)))) ret xo yi yo I (by decide) hop hh ⟨by omega, hRi, hRo, hO, fun _ => ⟨hn, hE, hT, hQ⟩⟩ (fun post h => sx_o10 post (by omega) hop (by omega) (by omega) hh h) (fun post h => sy_o10 post (by omega) (by omega) (by omega) (by omega) h)
theorem sc_g11 (I : sc_I 1 pc P S R Q sz d rc fi ci fo co ops args ret xi xo yi yo) (hop : ops pc = nI 11) (hh : sc_hin 11 d S rc R ci co Q = 1) : ∃ (r : Int32) (s : Nat) (u' : SX) (v' : SY), (∀ post : Int32 → SX → Prop, post r u' → wpX_executeOne post (nI P, nI S, nI R, nI Q, nI 1, nI pc, nI sz, nI d, nI rc, nI fi, nI ci, nI fo, nI co, ops, args, stk, ret, xi, xo)) ∧ (∀ post : Int32 → SY → Prop, post r v' → wpY_step post (nI P, nI S, nI R, nI Q, nI sz, nI d, nI rc, nI ci, nI co, nI 1, nI pc, ops, args, stk, ret, yi, yo)) ∧ sc_J s 1 u' v' ∧ ((r = nI s ∧ 1 ≤ s ∧ s ≤ 6) ∨ (s = 1 ∧ (r = 7 ∨ r = 8))) := by
  have h1 := sc_hin_1 hh
  have e1 : sc_nd 11 = 2 := rfl
  have e2 : sc_gr 11 = 0 := rfl
  have I0 := I
  obtain ⟨hb, hRi, hRo, hO, hr⟩ := I0
  obtain ⟨hpc, hE, hT, hQ⟩ := hr rfl
  have hn := sc_nxt hE hpc hop (by decide) (by decide) (by decide) (by decide)
  obtain ⟨e, rfl⟩ : ∃ e, d = e + 2 := ⟨d - 2, by omega⟩
  exact sc_fin 11 (pc + 1) (e + 1) rc fi ci fo co (upd stk e ((stk e) - (stk (e + 1)))) ret xo yi yo I (by decide) hop hh ⟨by omega, hRi, hRo, hO, fun _ => ⟨hn, hE, hT, hQ⟩⟩ (fun post h => sx_o11 post (by omega) hop (by omega) (by omega) hh h) (fun post h => sy_o11 post (by omega) (by omega) (by omega) (by omega) h)
theorem sc_g12 (I : sc_I 1 pc P S R Q sz d rc fi ci fo co ops args ret xi xo yi yo) (hop : ops pc = nI 12) (hh : sc_hin 12 d S rc R ci co Q = 1) : ∃ (r : Int32) (s : Nat) (u' : SX) (v' : SY), (∀ post : Int32 → SX → Prop, post r u' → wpX_executeOne post (nI P, nI S, nI R, nI Q, nI 1, nI pc, nI sz, nI d, nI rc, nI fi, nI ci, nI fo, nI co, ops, args, stk, ret, xi, xo)) ∧ (∀ post : Int32 → SY → Prop, post r v' → wpY_step post (nI P, nI S, nI R, nI Q, nI sz, nI d, nI rc, nI ci, nI co, nI 1, nI pc, ops, args, stk, ret, yi, yo)) ∧ sc_J s 1 u' v' ∧ ((r = nI s ∧ 1 ≤ s ∧ s ≤ 6) ∨ (s = 1 ∧ (r = 7 ∨ r = 8))) := by
  have h1 := sc_hin_1 hh
  have e1 : sc_nd 12 = 2 := rfl
  have e2 : sc_gr 12 = 0 := rfl
  have I0 := I
  obtain ⟨hb, hRi, hRo, hO, hr⟩ := I0
  obtain ⟨hpc, hE, hT, hQ⟩ := hr rfl
  have hn := sc_nxt hE hpc hop (by decide) (by decide) (by decide) (by decide)
  obtain ⟨e, rfl⟩ : ∃ e, d = e + 2 := ⟨d - 2, by omega⟩
  exact sc_fin 12 (pc + 1) (e + 1) rc fi ci fo co (upd stk e ((stk e) * (stk (e + 1)))) ret xo yi yo I (by decide) hop hh ⟨by omega, hRi, hRo, hO, fun _ => ⟨hn, hE, hT, hQ⟩⟩ (fun post h => sx_o12 post (by omega) hop (by omega) (by omega) hh h) (fun post h => sy_o12 post (by omega) (by omega) (by omega) (by omega) h)
theorem sc_g13 (I : sc_I 1 pc P S R Q sz d rc fi ci fo co ops args ret xi xo yi yo) (hop : ops pc = nI 13) (hh : sc_hin 13 d S rc R ci co Q = 1) : ∃ (r : Int32) (s : Nat) (u' : SX) (v' : SY), (∀ post : Int32 → SX → Prop, post r u' → wpX_executeOne post (nI P, nI S, nI R, nI Q, nI 1, nI pc, nI sz, nI d, nI rc, nI fi, nI ci, nI fo, nI co, ops, args, stk, ret, xi, xo)) ∧ (∀ post : Int32 → SY → Prop, post r v' → wpY_step post (nI P, nI S, nI R, nI Q, nI sz, nI d, nI rc, nI ci, nI co, nI 1, nI pc, ops, args, stk, ret, yi, yo)) ∧ sc_J s 1 u' v' ∧ ((r = nI s ∧ 1 ≤ s ∧ s ≤ 6) ∨ (s = 1 ∧ (r = 7 ∨ r = 8))) := by
  have h1 := sc_hin_1 hh
  have e1 : sc_nd 13 = 2 := rfl
  have e2 : sc_gr 13 = 0 := rfl
  have I0 := I
  obtain ⟨hb, hRi, hRo, hO, hr⟩ := I0
  obtain ⟨hpc, hE, hT, hQ⟩ := hr rfl
  have hn := sc_nxt hE hpc hop (by decide) (by decide) (by decide) (by decide)
  obtain ⟨e, rfl⟩ : ∃ e, d = e + 2 := ⟨d - 2, by omega⟩
  exact sc_fin 13 (pc + 1) (e + 1) rc fi ci fo co (upd stk e ((stk e) ^^^ (stk (e + 1)))) ret xo yi yo I (by decide) hop hh ⟨by omega, hRi, hRo, hO, fun _ => ⟨hn, hE, hT, hQ⟩⟩ (fun post h => sx_o13 post (by omega) hop (by omega) (by omega) hh h) (fun post h => sy_o13 post (by omega) (by omega) (by omega) (by omega) h)
theorem sc_g14 (I : sc_I 1 pc P S R Q sz d rc fi ci fo co ops args ret xi xo yi yo) (hop : ops pc = nI 14) (hh : sc_hin 14 d S rc R ci co Q = 1) : ∃ (r : Int32) (s : Nat) (u' : SX) (v' : SY), (∀ post : Int32 → SX → Prop, post r u' → wpX_executeOne post (nI P, nI S, nI R, nI Q, nI 1, nI pc, nI sz, nI d, nI rc, nI fi, nI ci, nI fo, nI co, ops, args, stk, ret, xi, xo)) ∧ (∀ post : Int32 → SY → Prop, post r v' → wpY_step post (nI P, nI S, nI R, nI Q, nI sz, nI d, nI rc, nI ci, nI co, nI 1, nI pc, ops, args, stk, ret, yi, yo)) ∧ sc_J s 1 u' v' ∧ ((r = nI s ∧ 1 ≤ s ∧ s ≤ 6) ∨ (s = 1 ∧ (r = 7 ∨ r = 8))) := by
  have h1 := sc_hin_1 hh
  have e1 : sc_nd 14 = 2 := rfl
  have e2 : sc_gr 14 = 0 := rfl
  have I0 := I
  obtain ⟨hb, hRi, hRo, hO, hr⟩ := I0
  obtain ⟨hpc, hE, hT, hQ⟩ := hr rfl
  have hn := sc_nxt hE hpc hop (by decide) (by decide) (by decide) (by decide)
  obtain ⟨e, rfl⟩ : ∃ e, d = e + 2 := ⟨d - 2, by omega⟩
  exact sc_fin 14 (pc + 1) (e + 1) rc fi ci fo co (upd stk e (if (stk (e + 1)) ≤ (stk e) then 0 else 1)) ret xo yi yo I (by decide) hop hh ⟨by omega, hRi, hRo, hO, fun _ => ⟨hn, hE, hT, hQ⟩⟩ (fun post h => sx_o14 post (by omega) hop (by omega) (by omega) hh h) (fun post h => sy_o14 post (by omega) (by omega) (by omega) (by omega) h)
theorem sc_g0 (I : sc_I 1 pc P S R Q sz d rc fi ci fo co ops args ret xi xo yi yo) (hop : ops pc = nI 0) (hh : sc_hin 0 d S rc R ci co Q = 1) : ∃ (r : Int32) (s : Nat) (u' : SX) (v' : SY), (∀ post : Int32 → SX → Prop, post r u' → wpX_executeOne post (nI P, nI S, nI R, nI Q, nI 1, nI pc, nI sz, nI d, nI rc, nI fi, nI ci, nI fo, nI co, ops, args, stk, ret, xi, xo)) ∧ (∀ post : Int32 → SY → Prop, post r v' → wpY_step post (nI P, nI S, nI R, nI Q, nI sz, nI d, nI rc, nI ci, nI co, nI 1, nI pc, ops, args, stk, ret, yi, yo)) ∧ sc_J s 1 u' v' ∧ ((r = nI s ∧ 1 ≤ s ∧ s ≤ 6) ∨ (s = 1 ∧ (r = 7 ∨ r = 8))) := by
  have h1 := sc_hin_1 hh
  have e1 : sc_nd 0 = 0 := rfl
  have e2 : sc_gr 0 = 1 := rfl
  have I0 := I
  obtain ⟨hb, hRi, hRo, hO, hr⟩ := I0
  obtain ⟨hpc, hE, hT, hQ⟩ := hr rfl
  exact ⟨2, 2, _, _, fun post h => sx_o0 post (by omega) hop (by omega) hh h, fun post h => sy_step post (o := 0) (by decide) (by omega) (by omega) hpc hop (fun _ => sy_o0 post (by omega) (by omega) h) (fun k e1 e2 => absurd (e1.symm.trans hh) e2), ⟨pc, P, S, R, Q, sz, d, rc, fi, ci, fo, co, ops, args, stk, ret, xi, xo, yi, yo, rfl, rfl, ⟨by omega, hRi, hRo, hO, fun z => absurd z (by decide)⟩⟩, Or.inl ⟨rfl, by decide, by decide⟩⟩
theorem sc_g15 (I : sc_I 1 pc P S R Q sz d rc fi ci fo co ops args ret xi xo yi yo) (hop : ops pc = nI 15) (hh : sc_hin 15 d S rc R ci co Q = 1) : ∃ (r : Int32) (s : Nat) (u' : SX) (v' : SY), (∀ post : Int32 → SX → Prop, post r u' → wpX_executeOne post (nI P, nI S, nI R, nI Q, nI 1, nI pc, nI sz, nI d, nI rc, nI fi, nI ci, nI fo, nI co, ops, args, stk, ret, xi, xo)) ∧ (∀ post : Int32 → SY → Prop, post r v' → wpY_step post (nI P, nI S, nI R, nI Q, nI sz, nI d, nI rc, nI ci, nI co, nI 1, nI pc, ops, args, stk, ret, yi, yo)) ∧ sc_J s 1 u' v' ∧ ((r = nI s ∧ 1 ≤ s ∧ s ≤ 6) ∨ (s = 1 ∧ (r = 7 ∨ r = 8))) := by
  have h1 := sc_hin_1 hh
  have e1 : sc_nd 15 = 0 := rfl
  have e2 : sc_gr 15 = 2 := rfl
  have I0 := I
  obtain ⟨hb, hRi, hRo, hO, hr⟩ := I0
  obtain ⟨hpc, hE, hT, hQ⟩ := hr rfl
  have hn := sc_nxt hE hpc hop (by decide) (by decide) (by decide) (by decide)
  obtain ⟨c, rfl⟩ : ∃ c, ci = c + 1 := ⟨ci - 1, by omega⟩
  exact sc_fin 15 (pc + 1) (d + 1) rc ((fi + 1) % 8) c fo co (upd stk d (xi fi)) ret xo (sc_sh yi c) yo I (by decide) hop hh ⟨by omega, sc_R_get hRi (fun i hi => if_pos hi), hRo, hO, fun _ => ⟨hn, hE, hT, hQ⟩⟩ (fun post h => sx_o15 post (by omega) hop (by omega) hh (by omega) (by omega) h) (fun post h => sy_o15 post (by omega) (by omega) (by omega) (by omega) (by rw [sc_R_front (by omega) hRi]; exact h))
theorem sc_g16 (I : sc_I 1 pc P S R Q sz d rc fi ci fo co ops args ret xi xo yi yo) (hop : ops pc = nI 16) (hh : sc_hin 16 d S rc R ci co Q = 1) : ∃ (r : Int32) (s : Nat) (u' : SX) (v' : SY), (∀ post : Int32 → SX → Prop, post r u' → wpX_executeOne post (nI P, nI S, nI R, nI Q, nI 1, nI pc, nI sz, nI d, nI rc, nI fi, nI ci, nI fo, nI co, ops, args, stk, ret, xi, xo)) ∧ (∀ post : Int32 → SY → Prop, post r v' → wpY_step post (nI P, nI S, nI R, nI Q, nI sz, nI d, nI rc, nI ci, nI co, nI 1, nI pc, ops, args, stk, ret, yi, yo)) ∧ sc_J s 1 u' v' ∧ ((r = nI s ∧ 1 ≤ s ∧ s ≤ 6) ∨ (s = 1 ∧ (r = 7 ∨ r = 8))) := by
  have h1 := sc_hin_1 hh
  have e1 : sc_nd 16 = 1 := rfl
  have e2 : sc_gr 16 = 0 := rfl
  have I0 := I
  obtain ⟨hb, hRi, hRo, hO, hr⟩ := I0
  obtain ⟨hpc, hE, hT, hQ⟩ := hr rfl
  have hn := sc_nxt hE hpc hop (by decide) (by decide) (by decide) (by decide)
  obtain ⟨e, rfl⟩ : ∃ e, d = e + 1 := ⟨d - 1, by omega⟩
  exact sc_fin 16 (pc + 1) e rc fi ci fo (co + 1) stk ret (upd xo ((fo + co) % 8) (stk e)) yi (upd yo co (stk e)) I (by decide) hop hh ⟨by omega, hRi, sc_R_put hRo (by omega), hO, fun _ => ⟨hn, hE, hT, hQ⟩⟩ (fun post h => sx_o16 post (by omega) hop (by omega) hh (by omega) h) (fun post h => sy_o16 post (by omega) (by omega) (by omega) (by omega) h)
theorem sc_g17 (I : sc_I 1 pc P S R Q sz d rc fi ci fo co ops args ret xi xo yi yo) (hop : ops pc = nI 17) (hh : sc_hin 17 d S rc R ci co Q = 1) : ∃ (r : Int32) (s : Nat) (u' : SX) (v' : SY), (∀ post : Int32 → SX → Prop, post r u' → wpX_executeOne post (nI P, nI S, nI R, nI Q, nI 1, nI pc, nI sz, nI d, nI rc, nI fi, nI ci, nI fo, nI co, ops, args, stk, ret, xi, xo)) ∧ (∀ post : Int32 → SY → Prop, post r v' → wpY_step post (nI P, nI S, nI R, nI Q, nI sz, nI d, nI rc, nI ci, nI co, nI 1, nI pc, ops, args, stk, ret, yi, yo)) ∧ sc_J s 1 u' v' ∧ ((r = nI s ∧ 1 ≤ s ∧ s ≤ 6) ∨ (s = 1 ∧ (r = 7 ∨ r = 8))) := by
  have h1 := sc_hin_1 hh
  have e1 : sc_nd 17 = 0 := rfl
  have e2 : sc_gr 17 = 1 := rfl
  have I0 := I
  obtain ⟨hb, hRi, hRo, hO, hr⟩ := I0
  obtain ⟨hpc, hE, hT, hQ⟩ := hr rfl
  obtain ⟨t, ht, et⟩ := hT pc hpc (Or.inl hop)
  exact sc_fin 17 t d rc fi ci fo co stk ret xo yi yo I (by decide) hop hh ⟨by omega, hRi, hRo, hO, fun _ => ⟨ht, hE, hT, hQ⟩⟩ (fun post h => sx_o17 post (by omega) hop (by omega) hh (by rw [et]; exact h)) (fun post h => sy_o17 post (by omega) (by omega) (by rw [et]; exact h))
theorem sc_g18 (I : sc_I 1 pc P S R Q sz d rc fi ci fo co ops args ret xi xo yi yo) (hop : ops pc = nI 18) (hh : sc_hin 18 d S rc R ci co Q = 1) : ∃ (r : Int32) (s : Nat) (u' : SX) (v' : SY), (∀ post : Int32 → SX → Prop, post r u' → wpX_executeOne post (nI P, nI S, nI R, nI Q, nI 1, nI pc, nI sz, nI d, nI rc, nI fi, nI ci, nI fo, nI co, ops, args, stk, ret, xi, xo)) ∧ (∀ post : Int32 → SY → Prop, post r v' → wpY_step post (nI P, nI S, nI R, nI Q, nI sz, nI d, nI rc, nI ci, nI co, nI 1, nI pc, ops, args, stk, ret, yi, yo)) ∧ sc_J s 1 u' v' ∧ ((r = nI s ∧ 1 ≤ s ∧ s ≤ 6) ∨ (s = 1 ∧ (r = 7 ∨ r = 8))) := by
  have h1 := sc_hin_1 hh
  have e1 : sc_nd 18 = 1 := rfl
  have e2 : sc_gr 18 = 0 := rfl
  have I0 := I
  obtain ⟨hb, hRi, hRo, hO, hr⟩ := I0
  obtain ⟨hpc, hE, hT, hQ⟩ := hr rfl
  have hn := sc_nxt hE hpc hop (by decide) (by decide) (by decide) (by decide)
  obtain ⟨t, ht, et⟩ := hT pc hpc (Or.inr (Or.inl hop))
  obtain ⟨e, rfl⟩ : ∃ e, d = e + 1 := ⟨d - 1, by omega⟩
  by_cases hz : stk e = 0
  · exact sc_fin 18 t e rc fi ci fo co stk ret xo yi yo I (by decide) hop hh ⟨by omega, hRi, hRo, hO, fun _ => ⟨ht, hE, hT, hQ⟩⟩ (fun post h => sx_o18z post (by omega) hop (by omega) hh hz (by rw [et]; exact h)) (fun post h => sy_o18z post (by omega) (by omega) (by omega) hz (by rw [et]; exact h))
  · exact sc_fin 18 (pc + 1) e rc fi ci fo co stk ret xo yi yo I (by decide) hop hh ⟨by omega, hRi, hRo, hO, fun _ => ⟨hn, hE, hT, hQ⟩⟩ (fun post h => sx_o18n post (by omega) hop (by omega) hh hz h) (fun post h => sy_o18n post (by omega) (by omega) (by omega) hz h)
theorem sc_g19 (I : sc_I 1 pc P S R Q sz d rc fi ci fo co ops args ret xi xo yi yo) (hop : ops pc = nI 19) (hh : sc_hin 19 d S rc R ci co Q = 1) : ∃ (r : Int32) (s : Nat) (u' : SX) (v' : SY), (∀ post : Int32 → SX → Prop, post r u' → wpX_executeOne post (nI P, nI S, nI R, nI Q, nI 1, nI pc, nI sz, nI d, nI rc, nI fi, nI ci, nI fo, nI co, ops, args, stk, ret, xi, xo)) ∧ (∀ post : Int32 → SY → Prop, post r v' → wpY_step post (nI P, nI S, nI R, nI Q, nI sz, nI d, nI rc, nI ci, nI co, nI 1, nI pc, ops, args, stk, ret, yi, yo)) ∧ sc_J s 1 u' v' ∧ ((r = nI s ∧ 1 ≤ s ∧ s ≤ 6) ∨ (s = 1 ∧ (r = 7 ∨ r = 8))) := by
  have h1 := sc_hin_1 hh
  have e1 : sc_nd 19 = 0 := rfl
  have e2 : sc_gr 19 = 1 := rfl
  have I0 := I
  obtain ⟨hb, hRi, hRo, hO, hr⟩ := I0
  obtain ⟨hpc, hE, hT, hQ⟩ := hr rfl
  have hn := sc_nxt hE hpc hop (by decide) (by decide) (by decide) (by decide)
  obtain ⟨t, ht, et⟩ := hT pc hpc (Or.inr (Or.inr hop))
  exact sc_fin 19 t d (rc + 1) fi ci fo co stk (upd ret rc (nI (pc + 1))) xo yi yo I (by decide) hop hh ⟨by omega, hRi, hRo, hO, fun _ => ⟨ht, hE, hT, sc_Q_put hQ hn⟩⟩ (fun post h => sx_o19 post (by omega) hop (by omega) hh (by omega) (by rw [et]; exact h)) (fun post h => sy_o19 post (by omega) (by omega) (by omega) (by rw [et]; exact h))
theorem sc_g20 (I : sc_I 1 pc P S R Q sz d rc fi ci fo co ops args ret xi xo yi yo) (hop : ops pc = nI 20) (hh : sc_hin 20 d S rc R ci co Q = 1) : ∃ (r : Int32) (s : Nat) (u' : SX) (v' : SY), (∀ post : Int32 → SX → Prop, post r u' → wpX_executeOne post (nI P, nI S, nI R, nI Q, nI 1, nI pc, nI sz, nI d, nI rc, nI fi, nI ci, nI fo, nI co, ops, args, stk, ret, xi, xo)) ∧ (∀ post : Int32 → SY → Prop, post r v' → wpY_step post (nI P, nI S, nI R, nI Q, nI sz, nI d, nI rc, nI ci, nI co, nI 1, nI pc, ops, args, stk, ret, yi, yo)) ∧ sc_J s 1 u' v' ∧ ((r = nI s ∧ 1 ≤ s ∧ s ≤ 6) ∨ (s = 1 ∧ (r = 7 ∨ r = 8))) := by
  have h1 := sc_hin_1 hh
  have e1 : sc_nd 20 = 0 := rfl
  have e2 : sc_gr 20 = 1 := rfl
  have I0 := I
  obtain ⟨hb, hRi, hRo, hO, hr⟩ := I0
  obtain ⟨hpc, hE, hT, hQ⟩ := hr rfl
  obtain ⟨c, rfl⟩ : ∃ c, rc = c + 1 := ⟨rc - 1, by omega⟩
  obtain ⟨t, ht, et⟩ := hQ c (by omega)
  exact sc_fin 20 t d c fi ci fo co stk ret xo yi yo I (by decide) hop hh ⟨by omega, hRi, hRo, hO, fun _ => ⟨ht, hE, hT, sc_Q_le hQ (by omega)⟩⟩ (fun post h => sx_o20 post (by omega) hop (by omega) hh (by omega) (by rw [et]; exact h)) (fun post h => sy_o20 post (by omega) (by omega) (by omega) (by rw [et]; exact h))
theorem sc_go (I : sc_I 1 pc P S R Q sz d rc fi ci fo co ops args ret xi xo yi yo) : ∀ o, o ≤ 20 → (ops pc = nI o → sc_hin o d S rc R ci co Q = 1 → ∃ (r : Int32) (s : Nat) (u' : SX) (v' : SY), (∀ post : Int32 → SX → Prop, post r u' → wpX_executeOne post (nI P, nI S, nI R, nI Q, nI 1, nI pc, nI sz, nI d, nI rc, nI fi, nI ci, nI fo, nI co, ops, args, stk, ret, xi, xo)) ∧ (∀ post : Int32 → SY → Prop, post r v' → wpY_step post (nI P, nI S, nI R, nI Q, nI sz, nI d, nI rc, nI ci, nI co, nI 1, nI pc, ops, args, stk, ret, yi, yo)) ∧ sc_J s 1 u' v' ∧ ((r = nI s ∧ 1 ≤ s ∧ s ≤ 6) ∨ (s = 1 ∧ (r = 7 ∨ r = 8)))) :=
  sc_21 (P := fun o => ops pc = nI o → sc_hin o d S rc R ci co Q = 1 → ∃ (r : Int32) (s : Nat) (u' : SX) (v' : SY), (∀ post : Int32 → SX → Prop, post r u' → wpX_executeOne post (nI P, nI S, nI R, nI Q, nI 1, nI pc, nI sz, nI d, nI rc, nI fi, nI ci, nI fo, nI co, ops, args, stk, ret, xi, xo)) ∧ (∀ post : Int32 → SY → Prop, post r v' → wpY_step post (nI P, nI S, nI R, nI Q, nI sz, nI d, nI rc, nI ci, nI co, nI 1, nI pc, ops, args, stk, ret, yi, yo)) ∧ sc_J s 1 u' v' ∧ ((r = nI s ∧ 1 ≤ s ∧ s ≤ 6) ∨ (s = 1 ∧ (r = 7 ∨ r = 8)))) (sc_g0 I) (sc_g1 I) (sc_g2 I) (sc_g3 I) (sc_g4 I) (sc_g5 I) (sc_g6 I) (sc_g7 I) (sc_g8 I) (sc_g9 I) (sc_g10 I) (sc_g11 I) (sc_g12 I) (sc_g13 I) (sc_g14 I) (sc_g15 I) (sc_g16 I) (sc_g17 I) (sc_g18 I) (sc_g19 I) (sc_g20 I)
theorem sc_step (I : sc_I 1 pc P S R Q sz d rc fi ci fo co ops args ret xi xo yi yo) : ∃ (r : Int32) (s : Nat) (u' : SX) (v' : SY), (∀ post : Int32 → SX → Prop, post r u' → wpX_executeOne post (nI P, nI S, nI R, nI Q, nI 1, nI pc, nI sz, nI d, nI rc, nI fi, nI ci, nI fo, nI co, ops, args, stk, ret, xi, xo)) ∧ (∀ post : Int32 → SY → Prop, post r v' → wpY_step post (nI P, nI S, nI R, nI Q, nI sz, nI d, nI rc, nI ci, nI co, nI 1, nI pc, ops, args, stk, ret, yi, yo)) ∧ sc_J s 1 u' v' ∧ ((r = nI s ∧ 1 ≤ s ∧ s ≤ 6) ∨ (s = 1 ∧ (r = 7 ∨ r = 8))) := by
  have I0 := I
  obtain ⟨hb, hRi, hRo, hO, hr⟩ := I0
  obtain ⟨hpc, hE, hT, hQ⟩ := hr rfl
  obtain ⟨o, ho, hop⟩ := hO pc hpc
  by_cases c1 : sc_hin o d S rc R ci co Q = 1
  · exact sc_go I o ho hop c1
  · have hr2 := sc_hin_r o d S rc R ci co Q
    generalize hk : sc_hin o d S rc R ci co Q = k at c1 hr2
    have hy : ∀ post : Int32 → SY → Prop, post (nI k) (nI P, nI S, nI R, nI Q, nI sz, nI d, nI rc, nI ci, nI co, nI 1, nI pc, ops, args, stk, ret, yi, yo) → wpY_step post (nI P, nI S, nI R, nI Q, nI sz, nI d, nI rc, nI ci, nI co, nI 1, nI pc, ops, args, stk, ret, yi, yo) := fun post h => sy_step post ho (by omega) (by omega) hpc hop (fun e => absurd (hk.symm.trans e) c1) (fun j ej _ => by rw [← ej, hk]; exact h)
    by_cases c2 : k ≤ 6
    · exact ⟨nI k, k, _, _, fun post h => sx_flt post ho (by omega) hop (by omega) hk (by omega) h, hy, ⟨pc, P, S, R, Q, sz, d, rc, fi, ci, fo, co, ops, args, stk, ret, xi, xo, yi, yo, rfl, rfl, ⟨by omega, hRi, hRo, hO, fun z => absurd z c1⟩⟩, Or.inl ⟨rfl, by omega, c2⟩⟩
    · have h78 : k = 7 ∨ k = 8 := by omega
      exact ⟨nI k, 1, _, _, fun post h => sx_wai post ho (by omega) hop (by omega) hk h78 h, hy, ⟨pc, P, S, R, Q, sz, d, rc, fi, ci, fo, co, ops, args, stk, ret, xi, xo, yi, yo, rfl, rfl, I⟩, Or.inr ⟨rfl, h78.elim (fun e => Or.inl (by rw [e]; rfl)) (fun e => Or.inr (by rw [e]; rfl))⟩⟩
end SCS
theorem sc_loop {L : Nat} (hL : L ≤ 256) : ∀ m i, i + m = L → ∀ (pc P S R Q sz d rc fi ci fo co : Nat) (ops args stk ret xi xo yi yo : Nat → Int32), sc_I 1 pc P S R Q sz d rc fi ci fo co ops args ret xi xo yi yo → ∃ (r : Int32) (u' : SX) (v' : SY), (∃ s, sc_J s s u' v') ∧ (∀ post : Int32 → SX → Prop, post r u' → wX_run_33 post (nI L) (m + 1) (nI i) (nI P) (nI S) (nI R) (nI Q) (nI 1) (nI pc) (nI sz) (nI d) (nI rc) (nI fi) (nI ci) (nI fo) (nI co) ops args stk ret xi xo) ∧ (∀ post : Int32 → SY → Prop, post r v' → wY_run_36 post (nI L) (m + 1) (nI i) (nI P) (nI S) (nI R) (nI Q) (nI sz) (nI d) (nI rc) (nI ci) (nI co) (nI 1) (nI pc) ops args stk ret yi yo) := by
  intro m
  induction m with
  | zero =>
    intro i hi pc P S R Q sz d rc fi ci fo co ops args stk ret xi xo yi yo I
    have hl : nI L ≤ nI i := nI_le (by omega) (by omega)
    exact ⟨1, _, _, ⟨1, pc, P, S, R, Q, sz, d, rc, fi, ci, fo, co, ops, args, stk, ret, xi, xo, yi, yo, rfl, rfl, I⟩, fun post h => br_t hl h, fun post h => br_t hl h⟩
  | succ m ih =>
    intro i hi pc P S R Q sz d rc fi ci fo co ops args stk ret xi xo yi yo I
    have hl : ¬ nI L ≤ nI i := nI_ge (by omega) (by omega)
    obtain ⟨r, s, u', v', hx, hy, J, hr⟩ := sc_step (stk := stk) I
    obtain ⟨pc', P', S', R', Q', sz', d', rc', fi', ci', fo', co', ops', args', stk', ret', xi', xo', yi', yo', rfl, rfl, I'⟩ := J
    rcases hr with ⟨rfl, h1, h6⟩ | ⟨rfl, hr⟩
    · by_cases c : s = 1
      · subst c
        obtain ⟨r2, u2, v2, rel, hx2, hy2⟩ := ih (i + 1) (by omega) pc' P' S' R' Q' sz' d' rc' fi' ci' fo' co' ops' args' stk' ret' xi' xo' yi' yo' I'
        exact ⟨r2, u2, v2, rel, fun post h => br_f hl (hx _ (br_t rfl (nm_r (nI_1 i) (hx2 post h)))), fun post h => br_f hl (hy _ (br_f (by decide) (br_f (by decide) (br_t rfl (nm_r (nI_1 i) (hy2 post h))))))⟩
      · have n1 : ¬ nI s = 1 := fun e => c ((nI_eq (b := 1) (by omega) (by omega)).mp e)
        have n7 : ¬ nI s = 7 := fun e => absurd ((nI_eq (b := 7) (by omega) (by omega)).mp e) (by omega)
        have n8 : ¬ nI s = 8 := fun e => absurd ((nI_eq (b := 8) (by omega) (by omega)).mp e) (by omega)
        exact ⟨nI s, _, _, ⟨s, pc', P', S', R', Q', sz', d', rc', fi', ci', fo', co', ops', args', stk', ret', xi', xo', yi', yo', rfl, rfl, I'⟩, fun post h => br_f hl (hx _ (br_f n1 h)), fun post h => br_f hl (hy _ (br_f n7 (br_f n8 (br_f n1 h))))⟩
    · rcases hr with rfl | rfl
      · exact ⟨7, _, _, ⟨1, pc', P', S', R', Q', sz', d', rc', fi', ci', fo', co', ops', args', stk', ret', xi', xo', yi', yo', rfl, rfl, I'⟩, fun post h => br_f hl (hx _ (br_f (by decide) h)), fun post h => br_f hl (hy _ (br_t rfl (br_f (by decide) h)))⟩
      · exact ⟨8, _, _, ⟨1, pc', P', S', R', Q', sz', d', rc', fi', ci', fo', co', ops', args', stk', ret', xi', xo', yi', yo', rfl, rfl, I'⟩, fun post h => br_f hl (hx _ (br_f (by decide) h)), fun post h => br_f hl (hy _ (br_f (by decide) (br_t rfl (br_f (by decide) h))))⟩
