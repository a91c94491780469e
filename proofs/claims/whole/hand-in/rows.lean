section
/-! numbers -/
theorem pk_us {f : Nat → Int32} {k : Nat} {x : Int32} : upd f k x k = x := if_pos rfl
theorem pk_un {f : Nat → Int32} {k j : Nat} {x : Int32} (h : j ≠ k) : upd f k x j = f j := if_neg h
theorem pk_sub {a b : Nat} (h : b ≤ a) : nI a - nI b = nI (a - b) := by
  obtain ⟨c, rfl⟩ : ∃ c, a = c + b := ⟨a - b, by omega⟩
  rw [← nI_add, Int32.add_sub_cancel, Nat.add_sub_cancel]
theorem pk_m1 (n : Nat) : nI (n + 1) + (-1) = nI n := by
  rw [← nI_1, Int32.add_assoc, show (1 : Int32) + (-1) = 0 from rfl, Int32.add_zero]
theorem pk_mul (a b : Nat) : nI a * nI b = nI (a * b) := (Int32.ofNat_mul a b).symm
theorem pk_div {a d : Nat} (ha : a < 2 ^ 31) (h0 : 0 < d) (hd : d < 2 ^ 31) : nI a / nI d = nI (a / d) := by
  apply Int32.toInt_inj.mp
  rw [lg_idiv_nonneg (by rw [nI_toInt ha]; omega) (by rw [nI_toInt hd]; omega), nI_toInt ha, nI_toInt hd, nI_toInt (Nat.lt_of_le_of_lt (Nat.div_le_self a d) ha)]
  first | rfl | exact (Int.natCast_ediv _ _).symm
theorem pk_rem {a d : Nat} (ha : a < 2 ^ 31) (h0 : 0 < d) (hd : d < 2 ^ 31) : nI a - nI a / nI d * nI d = nI (a % d) := by
  rw [pk_div ha h0 hd, pk_mul, pk_sub (Nat.div_mul_le_self a d)]
  exact congrArg nI (by have := Nat.div_add_mod' a d; omega)
theorem pk_ix (x : Int32) {n : Nat} (hn : n < 2 ^ 31) : x < 0 ∨ nI n ≤ x ∨ ∃ j : Nat, j < n ∧ x = nI j := by
  by_cases h : x < 0
  · exact Or.inl h
  · obtain ⟨j, hj, rfl⟩ := nI_of h
    by_cases h2 : j < n
    · exact Or.inr (Or.inr ⟨j, h2, rfl⟩)
    · exact Or.inr (Or.inl (nI_le (by omega) hj))
theorem pk_le {x y : Int32} {A B : Prop} (a b : Nat) (f : a ≤ b → A) (g : b < a → B) (hx : x = nI a := by rfl) (hy : y = nI b := by rfl) (ha : a < 2 ^ 31 := by omega) (hb : b < 2 ^ 31 := by omega) : (x ≤ y → A) ∧ (¬ x ≤ y → B) := by
  subst hx hy
  rw [nI_leI ha hb]
  exact ⟨f, fun z => g (by omega)⟩
theorem pk_lt {x y : Int32} {A B : Prop} (a b : Nat) (f : a < b → A) (g : b ≤ a → B) (hx : x = nI a := by rfl) (hy : y = nI b := by rfl) (ha : a < 2 ^ 31 := by omega) (hb : b < 2 ^ 31 := by omega) : (x < y → A) ∧ (¬ x < y → B) := by
  subst hx hy
  rw [nI_ltI ha hb]
  exact ⟨f, fun z => g (by omega)⟩
theorem pk_eq {x y : Int32} {A B : Prop} (a b : Nat) (f : a = b → A) (g : a ≠ b → B) (hx : x = nI a := by rfl) (hy : y = nI b := by rfl) (ha : a < 2 ^ 31 := by omega) (hb : b < 2 ^ 31 := by omega) : (x = y → A) ∧ (¬ x = y → B) := by
  subst hx hy
  rw [nI_eq ha hb]
  exact ⟨f, g⟩
theorem pk_in {x : Int32} (n N : Nat) (h : n < N) (hx : x = nI n := by rfl) (hN : N < 2 ^ 31 := by omega) : vp_in x N := by
  subst hx
  exact vp_in_nI h hN
theorem pk_cl {x : Int32} (n : Nat) (hx : x = nI n := by rfl) (h : n < 2 ^ 31 := by omega) : x.toNatClampNeg = n := by
  subst hx
  exact nI_clamp h
theorem sc_pred (n : Nat) : nI (n + 1) - 1 = nI n := nI_pred n
theorem sc_m1 {n : Nat} (h : 0 < n) : nI n - 1 = nI (n - 1) := by
  obtain ⟨m, rfl⟩ : ∃ m, n = m + 1 := ⟨n - 1, by omega⟩
  exact nI_pred m
theorem sc_a1 {n : Nat} (h : 0 < n) : nI n + (-1) = nI (n - 1) := by
  obtain ⟨m, rfl⟩ : ∃ m, n = m + 1 := ⟨n - 1, by omega⟩
  exact pk_m1 m
theorem sc_uid (f : Nat → Int32) (k : Nat) : upd f k (f k) = f := by
  funext j
  by_cases h : j = k
  · rw [h]; exact pk_us
  · exact pk_un h
theorem sc_ofN {x : Int32} {n : Nat} (h : x = nI n) (hn : n < 2 ^ 31) : x.toNatClampNeg = n := by
  rw [h]; exact nI_clamp hn
/-! the rings: a queue of c values whose front lies at f -/
def sc_R (x y : Nat → Int32) (f c : Nat) : Prop := ∀ i, i < c → y i = x ((f + i) % 8)
theorem sc_R_0 {x y : Nat → Int32} {f : Nat} : sc_R x y f 0 := fun i h => absurd h (Nat.not_lt_zero i)
theorem sc_R_put {x y : Nat → Int32} {f c : Nat} {v : Int32} (h : sc_R x y f c) (hc : c < 8) : sc_R (upd x ((f + c) % 8) v) (upd y c v) f (c + 1) := by
  intro i hi
  by_cases e : i = c
  · rw [e, pk_us, pk_us]
  · rw [pk_un e, pk_un (by omega)]
    exact h i (by omega)
theorem sc_R_get {x y y' : Nat → Int32} {f c : Nat} (h : sc_R x y f (c + 1)) (hy : ∀ i, i < c → y' i = y (i + 1)) : sc_R x y' ((f + 1) % 8) c := by
  intro i hi
  rw [hy i hi, h (i + 1) (by omega)]
  exact congrArg x (by omega)
theorem sc_R_front {x y : Nat → Int32} {f c : Nat} (hf : f < 8) (h : sc_R x y f (c + 1)) : y 0 = x f := by
  rw [h 0 (by omega)]
  exact congrArg x (by omega)
/-! a program that compile lets pass -/
def sc_O (n : Nat) (ops : Nat → Int32) : Prop := ∀ i, i < n → ∃ o, o ≤ 20 ∧ ops i = nI o
def sc_T (n m : Nat) (ops args : Nat → Int32) : Prop := ∀ i, i < m → (ops i = 17 ∨ ops i = 18 ∨ ops i = 19) → ∃ t, t < n ∧ args i = nI t
def sc_E (n : Nat) (ops : Nat → Int32) : Prop := ops (n - 1) = 0 ∨ ops (n - 1) = 17 ∨ ops (n - 1) = 20
def sc_Q (n rc : Nat) (ret : Nat → Int32) : Prop := ∀ i, i < rc → ∃ t, t < n ∧ ret i = nI t
theorem sc_O_put {n : Nat} {ops : Nat → Int32} {o : Nat} (h : sc_O n ops) (ho : o ≤ 20) : sc_O (n + 1) (upd ops n (nI o)) := by
  intro i hi
  by_cases e : i = n
  · exact ⟨o, ho, by rw [e]; exact pk_us⟩
  · obtain ⟨p, hp, ep⟩ := h i (by omega)
    exact ⟨p, hp, by rw [pk_un e]; exact ep⟩
theorem sc_O_le {n m : Nat} {ops : Nat → Int32} (h : sc_O n ops) (hm : m ≤ n) : sc_O m ops := fun i hi => h i (by omega)
theorem sc_Q_put {n rc t : Nat} {ret : Nat → Int32} (h : sc_Q n rc ret) (ht : t < n) : sc_Q n (rc + 1) (upd ret rc (nI t)) := by
  intro i hi
  by_cases e : i = rc
  · exact ⟨t, ht, by rw [e]; exact pk_us⟩
  · obtain ⟨p, hp, ep⟩ := h i (by omega)
    exact ⟨p, hp, by rw [pk_un e]; exact ep⟩
theorem sc_Q_le {n m k : Nat} {ret : Nat → Int32} (h : sc_Q n k ret) (hm : m ≤ k) : sc_Q n m ret := fun i hi => h i (by omega)
theorem sc_Q_0 {n : Nat} {ret : Nat → Int32} : sc_Q n 0 ret := fun i h => absurd h (Nat.not_lt_zero i)
theorem sc_nxt {n pc o : Nat} {ops : Nat → Int32} (E : sc_E n ops) (hpc : pc < n) (e : ops pc = nI o) (ho : o ≤ 20) (h0 : o ≠ 0) (h1 : o ≠ 17) (h2 : o ≠ 20) : pc + 1 < n := by
  by_cases c : pc + 1 < n
  · exact c
  · have hp : n - 1 = pc := by omega
    rw [sc_E, hp, e] at E
    rcases E with E | E | E
    · exact absurd ((nI_eq (b := 0) (by omega) (by omega)).mp E) h0
    · exact absurd ((nI_eq (b := 17) (by omega) (by omega)).mp E) h1
    · exact absurd ((nI_eq (b := 20) (by omega) (by omega)).mp E) h2
/-! what an instruction needs, what it adds (by one more), and what hinders it -/
def sc_nd (o : Nat) : Nat := if o = 6 then 3 else if o = 2 ∨ o = 3 ∨ o = 9 ∨ o = 16 ∨ o = 18 then 1 else if o = 4 ∨ o = 5 ∨ o = 7 ∨ o = 8 ∨ (10 ≤ o ∧ o ≤ 14) then 2 else 0
def sc_gr (o : Nat) : Nat := if o = 1 ∨ o = 2 ∨ o = 5 ∨ o = 8 ∨ o = 15 then 2 else if o = 3 ∨ o = 7 ∨ (10 ≤ o ∧ o ≤ 14) ∨ o = 16 ∨ o = 18 then 0 else 1
def sc_gI (o : Nat) : Int32 := if o = 1 ∨ o = 2 ∨ o = 5 ∨ o = 8 ∨ o = 15 then 1 else if o = 3 ∨ o = 7 ∨ (10 ≤ o ∧ o ≤ 14) ∨ o = 16 ∨ o = 18 then -1 else 0
theorem sc_21 {P : Nat → Prop} (h0 : P 0) (h1 : P 1) (h2 : P 2) (h3 : P 3) (h4 : P 4) (h5 : P 5) (h6 : P 6) (h7 : P 7) (h8 : P 8) (h9 : P 9) (h10 : P 10) (h11 : P 11) (h12 : P 12) (h13 : P 13) (h14 : P 14) (h15 : P 15) (h16 : P 16) (h17 : P 17) (h18 : P 18) (h19 : P 19) (h20 : P 20) : ∀ o, o ≤ 20 → P o := by
  intro o ho
  match o, ho with
  | 0, _ => exact h0
  | 1, _ => exact h1
  | 2, _ => exact h2
  | 3, _ => exact h3
  | 4, _ => exact h4
  | 5, _ => exact h5
  | 6, _ => exact h6
  | 7, _ => exact h7
  | 8, _ => exact h8
  | 9, _ => exact h9
  | 10, _ => exact h10
  | 11, _ => exact h11
  | 12, _ => exact h12
  | 13, _ => exact h13
  | 14, _ => exact h14
  | 15, _ => exact h15
  | 16, _ => exact h16
  | 17, _ => exact h17
  | 18, _ => exact h18
  | 19, _ => exact h19
  | 20, _ => exact h20
  | n + 21, h => exact absurd h (by omega)
theorem sc_dg' (d : Nat) : ∀ o, o ≤ 20 → (sc_nd o ≤ d → nI d + sc_gI o = nI (d + sc_gr o - 1)) := by
  refine sc_21 (P := fun o => sc_nd o ≤ d → nI d + sc_gI o = nI (d + sc_gr o - 1)) ?_ ?_ ?_ ?_ ?_ ?_ ?_ ?_ ?_ ?_ ?_ ?_ ?_ ?_ ?_ ?_ ?_ ?_ ?_ ?_ ?_
  · intro h; exact Int32.add_zero _
  · intro h; exact nI_1 d
  · intro h; exact nI_1 d
  · intro h; exact sc_a1 (Nat.lt_of_lt_of_le (by decide) h)
  · intro h; exact Int32.add_zero _
  · intro h; exact nI_1 d
  · intro h; exact Int32.add_zero _
  · intro h; exact sc_a1 (Nat.lt_of_lt_of_le (by decide) h)
  · intro h; exact nI_1 d
  · intro h; exact Int32.add_zero _
  · intro h; exact sc_a1 (Nat.lt_of_lt_of_le (by decide) h)
  · intro h; exact sc_a1 (Nat.lt_of_lt_of_le (by decide) h)
  · intro h; exact sc_a1 (Nat.lt_of_lt_of_le (by decide) h)
  · intro h; exact sc_a1 (Nat.lt_of_lt_of_le (by decide) h)
  · intro h; exact sc_a1 (Nat.lt_of_lt_of_le (by decide) h)
  · intro h; exact nI_1 d
  · intro h; exact sc_a1 (Nat.lt_of_lt_of_le (by decide) h)
  · intro h; exact Int32.add_zero _
  · intro h; exact sc_a1 (Nat.lt_of_lt_of_le (by decide) h)
  · intro h; exact Int32.add_zero _
  · intro h; exact Int32.add_zero _
theorem sc_dg {o d : Nat} (ho : o ≤ 20) (h : sc_nd o ≤ d) : nI d + sc_gI o = nI (d + sc_gr o - 1) := sc_dg' d o ho h
def sc_hin (o d S rc R ci co Q : Nat) : Nat := if d < sc_nd o then 3 else if S < d + sc_gr o - 1 then 4 else if o = 19 ∧ R ≤ rc then 6 else if o = 20 ∧ rc = 0 then 5 else if o = 15 ∧ ci = 0 then 7 else if o = 16 ∧ Q ≤ co then 8 else 1
theorem sc_s2 (d : Nat) : nI (d + 2) - 2 = nI d := (pk_sub (a := d + 2) (b := 2) (by omega)).trans (congrArg nI (by omega))
theorem sc_s3 (d : Nat) : nI (d + 3) - 3 = nI d := (pk_sub (a := d + 3) (b := 3) (by omega)).trans (congrArg nI (by omega))
theorem sc_p2 (d : Nat) : nI d + 2 = nI (d + 2) := nI_add d 2
/-! the queue of the reference, moved on by one, as far as i -/
def sc_sh (y : Nat → Int32) (i : Nat) : Nat → Int32 := fun j => if j < i then y (j + 1) else y j
theorem sc_sh_0 (y : Nat → Int32) : sc_sh y 0 = y := by
  funext j
  exact if_neg (Nat.not_lt_zero j)
theorem sc_sh_s (y : Nat → Int32) (i : Nat) : upd (sc_sh y i) i (sc_sh y i (i + 1)) = sc_sh y (i + 1) := by
  funext j
  by_cases h : j = i
  · rw [h, pk_us]
    show (if i + 1 < i then y (i + 1 + 1) else y (i + 1)) = if i < i + 1 then y (i + 1) else y i
    rw [if_neg (by omega), if_pos (by omega)]
  · rw [pk_un h]
    show (if j < i then y (j + 1) else y j) = if j < i + 1 then y (j + 1) else y j
    by_cases h2 : j < i
    · rw [if_pos h2, if_pos (by omega)]
    · rw [if_neg h2, if_neg (by omega)]
end
section
section SCH
variable {P S R Q st pc sz d rc fi ci fo co : Nat} {ops args stk ret xi xo yi yo : Nat → Int32}
/-! the relation: near equality; X's queues are rings, Y's begin at 0 -/
def sc_I (st pc P S R Q sz d rc fi ci fo co : Nat) (ops args ret xi xo yi yo : Nat → Int32) : Prop :=
  (P ≤ 24 ∧ S ≤ 32 ∧ R ≤ 8 ∧ Q ≤ 8 ∧ sz ≤ P ∧ d ≤ S ∧ rc ≤ R ∧ fi < 8 ∧ ci ≤ Q ∧ fo < 8 ∧ co ≤ Q ∧ st ≤ 6) ∧ sc_R xi yi fi ci ∧ sc_R xo yo fo co ∧ sc_O sz ops ∧ (st = 1 → pc < sz ∧ sc_E sz ops ∧ sc_T sz sz ops args ∧ sc_Q sz rc ret)
def sc_J (st ys : Nat) (u : SX) (v : SY) : Prop := ∃ (pc P S R Q sz d rc fi ci fo co : Nat) (ops args stk ret xi xo yi yo : Nat → Int32), u = (nI P, nI S, nI R, nI Q, nI st, nI pc, nI sz, nI d, nI rc, nI fi, nI ci, nI fo, nI co, ops, args, stk, ret, xi, xo) ∧ v = (nI P, nI S, nI R, nI Q, nI sz, nI d, nI rc, nI ci, nI co, nI ys, nI pc, ops, args, stk, ret, yi, yo) ∧ sc_I st pc P S R Q sz d rc fi ci fo co ops args ret xi xo yi yo
def i_Rel (_ : Nat) (u : SX) (v : SY) : Prop := ∃ st : Nat, sc_J st st u v
theorem i_up {k : Nat} {u : SX} {v : SY} (h : i_Rel k u v) : i_Rel (k + 3) u v := h
theorem sc_rel (k : Nat) (I : sc_I st pc P S R Q sz d rc fi ci fo co ops args ret xi xo yi yo) : i_Rel k (nI P, nI S, nI R, nI Q, nI st, nI pc, nI sz, nI d, nI rc, nI fi, nI ci, nI fo, nI co, ops, args, stk, ret, xi, xo) (nI P, nI S, nI R, nI Q, nI sz, nI d, nI rc, nI ci, nI co, nI st, nI pc, ops, args, stk, ret, yi, yo) := ⟨st, pc, P, S, R, Q, sz, d, rc, fi, ci, fo, co, ops, args, stk, ret, xi, xo, yi, yo, rfl, rfl, I⟩
/-! the small methods -/
theorem sx_push (post : SX → Prop) {v : Int32} (hd : d < 32) (h : post (nI P, nI S, nI R, nI Q, nI st, nI pc, nI sz, nI (d + 1), nI rc, nI fi, nI ci, nI fo, nI co, ops, args, upd stk d v, ret, xi, xo)) : wpX_push post (nI P, nI S, nI R, nI Q, nI st, nI pc, nI sz, nI d, nI rc, nI fi, nI ci, nI fo, nI co, ops, args, stk, ret, xi, xo) v := by
  unfold wpX_push
  exact ⟨vp_in_nI hd (by omega), nm_r (congrArg (fun i => upd stk i v) (nI_clamp (by omega))) (nm_r (nI_1 d) h)⟩
theorem sx_pop (post : Int32 → SX → Prop) (hd : d < 32) (h : post (stk d) (nI P, nI S, nI R, nI Q, nI st, nI pc, nI sz, nI d, nI rc, nI fi, nI ci, nI fo, nI co, ops, args, stk, ret, xi, xo)) : wpX_pop post (nI P, nI S, nI R, nI Q, nI st, nI pc, nI sz, nI (d + 1), nI rc, nI fi, nI ci, nI fo, nI co, ops, args, stk, ret, xi, xo) := by
  unfold wpX_pop
  refine nm_r (nI_pred d) ⟨vp_in_nI hd (by omega), ?_⟩
  rw [nI_clamp (by omega)]
  exact h
theorem sy_push (post : SY → Prop) {v : Int32} (hd : d < S) (hS : S ≤ 32) (h : post (nI P, nI S, nI R, nI Q, nI sz, nI (d + 1), nI rc, nI ci, nI co, nI st, nI pc, ops, args, upd stk d v, ret, yi, yo)) : wpY_push post (nI P, nI S, nI R, nI Q, nI sz, nI d, nI rc, nI ci, nI co, nI st, nI pc, ops, args, stk, ret, yi, yo) v := by
  unfold wpY_push
  exact br_t (nI_lt hd (by omega)) ⟨vp_in_nI (by omega) (by omega), nm_r (congrArg (fun i => upd stk i v) (nI_clamp (by omega))) (nm_r (nI_1 d) h)⟩
theorem sx_ring (post : Int32 → Prop) {a b : Nat} (h : a + b < 2 ^ 31) (hp : post (nI ((a + b) % 8))) : wpX_ringIndex post (nI a) (nI b) := by
  have e : (nI a + nI b) - (nI a + nI b) / 8 * 8 = nI ((a + b) % 8) := by
    rw [nI_add]
    exact pk_rem h (by decide) (by decide)
  refine ⟨by decide, ?_⟩
  rw [e]
  exact hp
theorem sc_cl (lo hi : Nat) (hl : lo ≤ hi) (hh : hi < 2 ^ 31) (v : Int32) : ∃ n, lo ≤ n ∧ n ≤ hi ∧ (∀ post : Int32 → Prop, post (nI n) → wpX_clamp post v (nI lo) (nI hi)) ∧ (∀ (post : Int32 → Prop) (y : SY), post (nI n) → wpY_clamp post y v (nI lo) (nI hi)) := by
  by_cases c : nI lo ≤ v
  · have h0 : ¬ v < 0 := Int32.not_lt.mpr (Int32.le_trans (nI_pos' (by omega)) c)
    obtain ⟨j, hj, rfl⟩ := nI_of h0
    rw [nI_leI (by omega) hj] at c
    have c1 : nI lo ≤ nI j := nI_le c hj
    by_cases c2 : j ≤ hi
    · have c3 : nI j ≤ nI hi := nI_le c2 hh
      exact ⟨j, c, c2, fun post h => br_t c1 (br_t c3 h), fun post ⟨_, _, _, _, _, _, _, _, _, _, _, _, _, _, _, _, _⟩ h => br_t c1 (br_t c3 h)⟩
    · have c3 : ¬ nI j ≤ nI hi := nI_ge (by omega) hj
      exact ⟨hi, hl, Nat.le_refl _, fun post h => br_t c1 (br_f c3 h), fun post ⟨_, _, _, _, _, _, _, _, _, _, _, _, _, _, _, _, _⟩ h => br_t c1 (br_f c3 h)⟩
  · exact ⟨lo, Nat.le_refl _, hl, fun post h => br_f c h, fun post ⟨_, _, _, _, _, _, _, _, _, _, _, _, _, _, _, _, _⟩ h => br_f c h⟩
/-! need, growth -/
theorem sx_need : ∀ o, o ≤ 20 → ∀ post : Int32 → Prop, post (nI (sc_nd o)) → wpX_need post (nI o) := by
  refine sc_21 (P := fun o => ∀ post : Int32 → Prop, post (nI (sc_nd o)) → wpX_need post (nI o)) ?_ ?_ ?_ ?_ ?_ ?_ ?_ ?_ ?_ ?_ ?_ ?_ ?_ ?_ ?_ ?_ ?_ ?_ ?_ ?_ ?_
  · intro post h
    have h2 : post (0 : Int32) := h
    show wpX_need post 0
    simpa [wpX_need] using h2
  · intro post h
    have h2 : post (0 : Int32) := h
    show wpX_need post 1
    simpa [wpX_need] using h2
  · intro post h
    have h2 : post (1 : Int32) := h
    show wpX_need post 2
    simpa [wpX_need] using h2
  · intro post h
    have h2 : post (1 : Int32) := h
    show wpX_need post 3
    simpa [wpX_need] using h2
  · intro post h
    have h2 : post (2 : Int32) := h
    show wpX_need post 4
    simpa [wpX_need] using h2
  · intro post h
    have h2 : post (2 : Int32) := h
    show wpX_need post 5
    simpa [wpX_need] using h2
  · intro post h
    have h2 : post (3 : Int32) := h
    show wpX_need post 6
    simpa [wpX_need] using h2
  · intro post h
    have h2 : post (2 : Int32) := h
    show wpX_need post 7
    simpa [wpX_need] using h2
  · intro post h
    have h2 : post (2 : Int32) := h
    show wpX_need post 8
    simpa [wpX_need] using h2
  · intro post h
    have h2 : post (1 : Int32) := h
    show wpX_need post 9
    simpa [wpX_need] using h2
  · intro post h
    have h2 : post (2 : Int32) := h
    show wpX_need post 10
    simpa [wpX_need] using h2
  · intro post h
    have h2 : post (2 : Int32) := h
    show wpX_need post 11
    simpa [wpX_need] using h2
  · intro post h
    have h2 : post (2 : Int32) := h
    show wpX_need post 12
    simpa [wpX_need] using h2
  · intro post h
    have h2 : post (2 : Int32) := h
    show wpX_need post 13
    simpa [wpX_need] using h2
  · intro post h
    have h2 : post (2 : Int32) := h
    show wpX_need post 14
    simpa [wpX_need] using h2
  · intro post h
    have h2 : post (0 : Int32) := h
    show wpX_need post 15
    simpa [wpX_need] using h2
  · intro post h
    have h2 : post (1 : Int32) := h
    show wpX_need post 16
    simpa [wpX_need] using h2
  · intro post h
    have h2 : post (0 : Int32) := h
    show wpX_need post 17
    simpa [wpX_need] using h2
  · intro post h
    have h2 : post (1 : Int32) := h
    show wpX_need post 18
    simpa [wpX_need] using h2
  · intro post h
    have h2 : post (0 : Int32) := h
    show wpX_need post 19
    simpa [wpX_need] using h2
  · intro post h
    have h2 : post (0 : Int32) := h
    show wpX_need post 20
    simpa [wpX_need] using h2
theorem sx_growth : ∀ o, o ≤ 20 → ∀ post : Int32 → Prop, post (sc_gI o) → wpX_growth post (nI o) := by
  refine sc_21 (P := fun o => ∀ post : Int32 → Prop, post (sc_gI o) → wpX_growth post (nI o)) ?_ ?_ ?_ ?_ ?_ ?_ ?_ ?_ ?_ ?_ ?_ ?_ ?_ ?_ ?_ ?_ ?_ ?_ ?_ ?_ ?_
  · intro post h
    have h2 : post (0 : Int32) := h
    show wpX_growth post 0
    simpa [wpX_growth] using h2
  · intro post h
    have h2 : post (1 : Int32) := h
    show wpX_growth post 1
    simpa [wpX_growth] using h2
  · intro post h
    have h2 : post (1 : Int32) := h
    show wpX_growth post 2
    simpa [wpX_growth] using h2
  · intro post h
    have h2 : post (-1 : Int32) := h
    show wpX_growth post 3
    simpa [wpX_growth] using h2
  · intro post h
    have h2 : post (0 : Int32) := h
    show wpX_growth post 4
    simpa [wpX_growth] using h2
  · intro post h
    have h2 : post (1 : Int32) := h
    show wpX_growth post 5
    simpa [wpX_growth] using h2
  · intro post h
    have h2 : post (0 : Int32) := h
    show wpX_growth post 6
    simpa [wpX_growth] using h2
  · intro post h
    have h2 : post (-1 : Int32) := h
    show wpX_growth post 7
    simpa [wpX_growth] using h2
  · intro post h
    have h2 : post (1 : Int32) := h
    show wpX_growth post 8
    simpa [wpX_growth] using h2
  · intro post h
    have h2 : post (0 : Int32) := h
    show wpX_growth post 9
    simpa [wpX_growth] using h2
  · intro post h
    have h2 : post (-1 : Int32) := h
    show wpX_growth post 10
    simpa [wpX_growth] using h2
  · intro post h
    have h2 : post (-1 : Int32) := h
    show wpX_growth post 11
    simpa [wpX_growth] using h2
  · intro post h
    have h2 : post (-1 : Int32) := h
    show wpX_growth post 12
    simpa [wpX_growth] using h2
  · intro post h
    have h2 : post (-1 : Int32) := h
    show wpX_growth post 13
    simpa [wpX_growth] using h2
  · intro post h
    have h2 : post (-1 : Int32) := h
    show wpX_growth post 14
    simpa [wpX_growth] using h2
  · intro post h
    have h2 : post (1 : Int32) := h
    show wpX_growth post 15
    simpa [wpX_growth] using h2
  · intro post h
    have h2 : post (-1 : Int32) := h
    show wpX_growth post 16
    simpa [wpX_growth] using h2
  · intro post h
    have h2 : post (0 : Int32) := h
    show wpX_growth post 17
    simpa [wpX_growth] using h2
  · intro post h
    have h2 : post (-1 : Int32) := h
    show wpX_growth post 18
    simpa [wpX_growth] using h2
  · intro post h
    have h2 : post (0 : Int32) := h
    show wpX_growth post 19
    simpa [wpX_growth] using h2
  · intro post h
    have h2 : post (0 : Int32) := h
    show wpX_growth post 20
    simpa [wpX_growth] using h2
theorem sy_need : ∀ o, o ≤ 20 → ∀ post : Int32 → Prop, post (nI (sc_nd o)) → wpY_need post (nI P, nI S, nI R, nI Q, nI sz, nI d, nI rc, nI ci, nI co, nI st, nI pc, ops, args, stk, ret, yi, yo) (nI o) := by
  refine sc_21 (P := fun o => ∀ post : Int32 → Prop, post (nI (sc_nd o)) → wpY_need post (nI P, nI S, nI R, nI Q, nI sz, nI d, nI rc, nI ci, nI co, nI st, nI pc, ops, args, stk, ret, yi, yo) (nI o)) ?_ ?_ ?_ ?_ ?_ ?_ ?_ ?_ ?_ ?_ ?_ ?_ ?_ ?_ ?_ ?_ ?_ ?_ ?_ ?_ ?_
  · intro post h
    have h2 : post (0 : Int32) := h
    show wpY_need post (nI P, nI S, nI R, nI Q, nI sz, nI d, nI rc, nI ci, nI co, nI st, nI pc, ops, args, stk, ret, yi, yo) 0
    simpa [wpY_need] using h2
  · intro post h
    have h2 : post (0 : Int32) := h
    show wpY_need post (nI P, nI S, nI R, nI Q, nI sz, nI d, nI rc, nI ci, nI co, nI st, nI pc, ops, args, stk, ret, yi, yo) 1
    simpa [wpY_need] using h2
  · intro post h
    have h2 : post (1 : Int32) := h
    show wpY_need post (nI P, nI S, nI R, nI Q, nI sz, nI d, nI rc, nI ci, nI co, nI st, nI pc, ops, args, stk, ret, yi, yo) 2
    simpa [wpY_need] using h2
  · intro post h
    have h2 : post (1 : Int32) := h
    show wpY_need post (nI P, nI S, nI R, nI Q, nI sz, nI d, nI rc, nI ci, nI co, nI st, nI pc, ops, args, stk, ret, yi, yo) 3
    simpa [wpY_need] using h2
  · intro post h
    have h2 : post (2 : Int32) := h
    show wpY_need post (nI P, nI S, nI R, nI Q, nI sz, nI d, nI rc, nI ci, nI co, nI st, nI pc, ops, args, stk, ret, yi, yo) 4
    simpa [wpY_need] using h2
  · intro post h
    have h2 : post (2 : Int32) := h
    show wpY_need post (nI P, nI S, nI R, nI Q, nI sz, nI d, nI rc, nI ci, nI co, nI st, nI pc, ops, args, stk, ret, yi, yo) 5
    simpa [wpY_need] using h2
  · intro post h
    have h2 : post (3 : Int32) := h
    show wpY_need post (nI P, nI S, nI R, nI Q, nI sz, nI d, nI rc, nI ci, nI co, nI st, nI pc, ops, args, stk, ret, yi, yo) 6
    simpa [wpY_need] using h2
  · intro post h
    have h2 : post (2 : Int32) := h
    show wpY_need post (nI P, nI S, nI R, nI Q, nI sz, nI d, nI rc, nI ci, nI co, nI st, nI pc, ops, args, stk, ret, yi, yo) 7
    simpa [wpY_need] using h2
  · intro post h
    have h2 : post (2 : Int32) := h
    show wpY_need post (nI P, nI S, nI R, nI Q, nI sz, nI d, nI rc, nI ci, nI co, nI st, nI pc, ops, args, stk, ret, yi, yo) 8
    simpa [wpY_need] using h2
  · intro post h
    have h2 : post (1 : Int32) := h
    show wpY_need post (nI P, nI S, nI R, nI Q, nI sz, nI d, nI rc, nI ci, nI co, nI st, nI pc, ops, args, stk, ret, yi, yo) 9
    simpa [wpY_need] using h2
  · intro post h
    have h2 : post (2 : Int32) := h
    show wpY_need post (nI P, nI S, nI R, nI Q, nI sz, nI d, nI rc, nI ci, nI co, nI st, nI pc, ops, args, stk, ret, yi, yo) 10
    simpa [wpY_need] using h2
  · intro post h
    have h2 : post (2 : Int32) := h
    show wpY_need post (nI P, nI S, nI R, nI Q, nI sz, nI d, nI rc, nI ci, nI co, nI st, nI pc, ops, args, stk, ret, yi, yo) 11
    simpa [wpY_need] using h2
  · intro post h
    have h2 : post (2 : Int32) := h
    show wpY_need post (nI P, nI S, nI R, nI Q, nI sz, nI d, nI rc, nI ci, nI co, nI st, nI pc, ops, args, stk, ret, yi, yo) 12
    simpa [wpY_need] using h2
  · intro post h
    have h2 : post (2 : Int32) := h
    show wpY_need post (nI P, nI S, nI R, nI Q, nI sz, nI d, nI rc, nI ci, nI co, nI st, nI pc, ops, args, stk, ret, yi, yo) 13
    simpa [wpY_need] using h2
  · intro post h
    have h2 : post (2 : Int32) := h
    show wpY_need post (nI P, nI S, nI R, nI Q, nI sz, nI d, nI rc, nI ci, nI co, nI st, nI pc, ops, args, stk, ret, yi, yo) 14
    simpa [wpY_need] using h2
  · intro post h
    have h2 : post (0 : Int32) := h
    show wpY_need post (nI P, nI S, nI R, nI Q, nI sz, nI d, nI rc, nI ci, nI co, nI st, nI pc, ops, args, stk, ret, yi, yo) 15
    simpa [wpY_need] using h2
  · intro post h
    have h2 : post (1 : Int32) := h
    show wpY_need post (nI P, nI S, nI R, nI Q, nI sz, nI d, nI rc, nI ci, nI co, nI st, nI pc, ops, args, stk, ret, yi, yo) 16
    simpa [wpY_need] using h2
  · intro post h
    have h2 : post (0 : Int32) := h
    show wpY_need post (nI P, nI S, nI R, nI Q, nI sz, nI d, nI rc, nI ci, nI co, nI st, nI pc, ops, args, stk, ret, yi, yo) 17
    simpa [wpY_need] using h2
  · intro post h
    have h2 : post (1 : Int32) := h
    show wpY_need post (nI P, nI S, nI R, nI Q, nI sz, nI d, nI rc, nI ci, nI co, nI st, nI pc, ops, args, stk, ret, yi, yo) 18
    simpa [wpY_need] using h2
  · intro post h
    have h2 : post (0 : Int32) := h
    show wpY_need post (nI P, nI S, nI R, nI Q, nI sz, nI d, nI rc, nI ci, nI co, nI st, nI pc, ops, args, stk, ret, yi, yo) 19
    simpa [wpY_need] using h2
  · intro post h
    have h2 : post (0 : Int32) := h
    show wpY_need post (nI P, nI S, nI R, nI Q, nI sz, nI d, nI rc, nI ci, nI co, nI st, nI pc, ops, args, stk, ret, yi, yo) 20
    simpa [wpY_need] using h2
theorem sy_growth : ∀ o, o ≤ 20 → ∀ post : Int32 → Prop, post (sc_gI o) → wpY_growth post (nI P, nI S, nI R, nI Q, nI sz, nI d, nI rc, nI ci, nI co, nI st, nI pc, ops, args, stk, ret, yi, yo) (nI o) := by
  refine sc_21 (P := fun o => ∀ post : Int32 → Prop, post (sc_gI o) → wpY_growth post (nI P, nI S, nI R, nI Q, nI sz, nI d, nI rc, nI ci, nI co, nI st, nI pc, ops, args, stk, ret, yi, yo) (nI o)) ?_ ?_ ?_ ?_ ?_ ?_ ?_ ?_ ?_ ?_ ?_ ?_ ?_ ?_ ?_ ?_ ?_ ?_ ?_ ?_ ?_
  · intro post h
    have h2 : post (0 : Int32) := h
    show wpY_growth post (nI P, nI S, nI R, nI Q, nI sz, nI d, nI rc, nI ci, nI co, nI st, nI pc, ops, args, stk, ret, yi, yo) 0
    simpa [wpY_growth, wY_growth_52] using h2
  · intro post h
    have h2 : post (1 : Int32) := h
    show wpY_growth post (nI P, nI S, nI R, nI Q, nI sz, nI d, nI rc, nI ci, nI co, nI st, nI pc, ops, args, stk, ret, yi, yo) 1
    simpa [wpY_growth, wY_growth_52] using h2
  · intro post h
    have h2 : post (1 : Int32) := h
    show wpY_growth post (nI P, nI S, nI R, nI Q, nI sz, nI d, nI rc, nI ci, nI co, nI st, nI pc, ops, args, stk, ret, yi, yo) 2
    simpa [wpY_growth, wY_growth_52] using h2
  · intro post h
    have h2 : post (-1 : Int32) := h
    show wpY_growth post (nI P, nI S, nI R, nI Q, nI sz, nI d, nI rc, nI ci, nI co, nI st, nI pc, ops, args, stk, ret, yi, yo) 3
    simpa [wpY_growth, wY_growth_52] using h2
  · intro post h
    have h2 : post (0 : Int32) := h
    show wpY_growth post (nI P, nI S, nI R, nI Q, nI sz, nI d, nI rc, nI ci, nI co, nI st, nI pc, ops, args, stk, ret, yi, yo) 4
    simpa [wpY_growth, wY_growth_52] using h2
  · intro post h
    have h2 : post (1 : Int32) := h
    show wpY_growth post (nI P, nI S, nI R, nI Q, nI sz, nI d, nI rc, nI ci, nI co, nI st, nI pc, ops, args, stk, ret, yi, yo) 5
    simpa [wpY_growth, wY_growth_52] using h2
  · intro post h
    have h2 : post (0 : Int32) := h
    show wpY_growth post (nI P, nI S, nI R, nI Q, nI sz, nI d, nI rc, nI ci, nI co, nI st, nI pc, ops, args, stk, ret, yi, yo) 6
    simpa [wpY_growth, wY_growth_52] using h2
  · intro post h
    have h2 : post (-1 : Int32) := h
    show wpY_growth post (nI P, nI S, nI R, nI Q, nI sz, nI d, nI rc, nI ci, nI co, nI st, nI pc, ops, args, stk, ret, yi, yo) 7
    simpa [wpY_growth, wY_growth_52] using h2
  · intro post h
    have h2 : post (1 : Int32) := h
    show wpY_growth post (nI P, nI S, nI R, nI Q, nI sz, nI d, nI rc, nI ci, nI co, nI st, nI pc, ops, args, stk, ret, yi, yo) 8
    simpa [wpY_growth, wY_growth_52] using h2
  · intro post h
    have h2 : post (0 : Int32) := h
    show wpY_growth post (nI P, nI S, nI R, nI Q, nI sz, nI d, nI rc, nI ci, nI co, nI st, nI pc, ops, args, stk, ret, yi, yo) 9
    simpa [wpY_growth, wY_growth_52] using h2
  · intro post h
    have h2 : post (-1 : Int32) := h
    show wpY_growth post (nI P, nI S, nI R, nI Q, nI sz, nI d, nI rc, nI ci, nI co, nI st, nI pc, ops, args, stk, ret, yi, yo) 10
    simpa [wpY_growth, wY_growth_52] using h2
  · intro post h
    have h2 : post (-1 : Int32) := h
    show wpY_growth post (nI P, nI S, nI R, nI Q, nI sz, nI d, nI rc, nI ci, nI co, nI st, nI pc, ops, args, stk, ret, yi, yo) 11
    simpa [wpY_growth, wY_growth_52] using h2
  · intro post h
    have h2 : post (-1 : Int32) := h
    show wpY_growth post (nI P, nI S, nI R, nI Q, nI sz, nI d, nI rc, nI ci, nI co, nI st, nI pc, ops, args, stk, ret, yi, yo) 12
    simpa [wpY_growth, wY_growth_52] using h2
  · intro post h
    have h2 : post (-1 : Int32) := h
    show wpY_growth post (nI P, nI S, nI R, nI Q, nI sz, nI d, nI rc, nI ci, nI co, nI st, nI pc, ops, args, stk, ret, yi, yo) 13
    simpa [wpY_growth, wY_growth_52] using h2
  · intro post h
    have h2 : post (-1 : Int32) := h
    show wpY_growth post (nI P, nI S, nI R, nI Q, nI sz, nI d, nI rc, nI ci, nI co, nI st, nI pc, ops, args, stk, ret, yi, yo) 14
    simpa [wpY_growth, wY_growth_52] using h2
  · intro post h
    have h2 : post (1 : Int32) := h
    show wpY_growth post (nI P, nI S, nI R, nI Q, nI sz, nI d, nI rc, nI ci, nI co, nI st, nI pc, ops, args, stk, ret, yi, yo) 15
    simpa [wpY_growth, wY_growth_52] using h2
  · intro post h
    have h2 : post (-1 : Int32) := h
    show wpY_growth post (nI P, nI S, nI R, nI Q, nI sz, nI d, nI rc, nI ci, nI co, nI st, nI pc, ops, args, stk, ret, yi, yo) 16
    simpa [wpY_growth, wY_growth_52] using h2
  · intro post h
    have h2 : post (0 : Int32) := h
    show wpY_growth post (nI P, nI S, nI R, nI Q, nI sz, nI d, nI rc, nI ci, nI co, nI st, nI pc, ops, args, stk, ret, yi, yo) 17
    simpa [wpY_growth, wY_growth_52] using h2
  · intro post h
    have h2 : post (-1 : Int32) := h
    show wpY_growth post (nI P, nI S, nI R, nI Q, nI sz, nI d, nI rc, nI ci, nI co, nI st, nI pc, ops, args, stk, ret, yi, yo) 18
    simpa [wpY_growth, wY_growth_52] using h2
  · intro post h
    have h2 : post (0 : Int32) := h
    show wpY_growth post (nI P, nI S, nI R, nI Q, nI sz, nI d, nI rc, nI ci, nI co, nI st, nI pc, ops, args, stk, ret, yi, yo) 19
    simpa [wpY_growth, wY_growth_52] using h2
  · intro post h
    have h2 : post (0 : Int32) := h
    show wpY_growth post (nI P, nI S, nI R, nI Q, nI sz, nI d, nI rc, nI ci, nI co, nI st, nI pc, ops, args, stk, ret, yi, yo) 20
    simpa [wpY_growth, wY_growth_52] using h2
theorem sc_nd_le (o : Nat) : sc_nd o ≤ 3 := by
  unfold sc_nd
  repeat' split
  all_goals omega
theorem sc_gr_le (o : Nat) : sc_gr o ≤ 2 := by
  unfold sc_gr
  repeat' split
  all_goals omega
/-! what hinders, X -/
theorem sx_h82 (post : Int32 → Prop) {o : Nat} (ho : o ≤ 20) (hb : co ≤ 8 ∧ Q ≤ 8) (h1 : o = 16 → Q ≤ co → post 8) (h2 : ¬ (o = 16 ∧ Q ≤ co) → post 1) : wX_findHindrance_82 post (nI o) (nI P) (nI S) (nI R) (nI Q) (nI st) (nI pc) (nI sz) (nI d) (nI rc) (nI fi) (nI ci) (nI fo) (nI co) ops args stk ret xi xo :=
  pk_eq o 16 (fun c => pk_lt co Q (fun c2 => h2 (by omega)) (fun c2 => h1 c c2)) (fun c => h2 (by omega))
theorem sx_h66 (post : Int32 → Prop) {o : Nat} (ho : o ≤ 20) (hb : ci ≤ 8) (h1 : o = 15 → ci = 0 → post 7) (h2 : ¬ (o = 15 ∧ ci = 0) → wX_findHindrance_82 post (nI o) (nI P) (nI S) (nI R) (nI Q) (nI st) (nI pc) (nI sz) (nI d) (nI rc) (nI fi) (nI ci) (nI fo) (nI co) ops args stk ret xi xo) : wX_findHindrance_66 post (nI o) (nI P) (nI S) (nI R) (nI Q) (nI st) (nI pc) (nI sz) (nI d) (nI rc) (nI fi) (nI ci) (nI fo) (nI co) ops args stk ret xi xo :=
  pk_eq o 15 (fun c => pk_eq ci 0 (fun c2 => h1 c c2) (fun c2 => h2 (by omega))) (fun c => h2 (by omega))
theorem sx_h51 (post : Int32 → Prop) {o : Nat} (ho : o ≤ 20) (hb : rc ≤ 8) (h1 : o = 20 → rc = 0 → post 5) (h2 : ¬ (o = 20 ∧ rc = 0) → wX_findHindrance_66 post (nI o) (nI P) (nI S) (nI R) (nI Q) (nI st) (nI pc) (nI sz) (nI d) (nI rc) (nI fi) (nI ci) (nI fo) (nI co) ops args stk ret xi xo) : wX_findHindrance_51 post (nI o) (nI P) (nI S) (nI R) (nI Q) (nI st) (nI pc) (nI sz) (nI d) (nI rc) (nI fi) (nI ci) (nI fo) (nI co) ops args stk ret xi xo :=
  pk_eq o 20 (fun c => pk_eq rc 0 (fun c2 => h1 c c2) (fun c2 => h2 (by omega))) (fun c => h2 (by omega))
theorem sx_hin (post : Int32 → Prop) {o : Nat} (ho : o ≤ 20) (hb : S ≤ 32 ∧ R ≤ 8 ∧ Q ≤ 8 ∧ d ≤ S ∧ rc ≤ R ∧ ci ≤ Q ∧ co ≤ Q) (h : ∀ k, sc_hin o d S rc R ci co Q = k → post (nI k)) : wpX_findHindrance post (nI P, nI S, nI R, nI Q, nI st, nI pc, nI sz, nI d, nI rc, nI fi, nI ci, nI fo, nI co, ops, args, stk, ret, xi, xo) (nI o) := by
  have hn := sc_nd_le o
  have hg := sc_gr_le o
  unfold wpX_findHindrance
  refine sx_need o ho _ ?_
  refine pk_le (sc_nd o) d (fun c => ?_) (fun c => h 3 ?_) rfl rfl (by omega) (by omega)
  · refine sx_growth o ho _ ?_
    refine pk_le (d + sc_gr o - 1) S (fun c2 => ?_) (fun c2 => h 4 ?_) (sc_dg ho c) rfl (by omega) (by omega)
    · have J : ¬ (o = 19 ∧ R ≤ rc) → wX_findHindrance_51 post (nI o) (nI P) (nI S) (nI R) (nI Q) (nI st) (nI pc) (nI sz) (nI d) (nI rc) (nI fi) (nI ci) (nI fo) (nI co) ops args stk ret xi xo := fun c3 => by
        refine sx_h51 post ho (by omega) (fun a b => h 5 ?_) (fun c4 => sx_h66 post ho (by omega) (fun a b => h 7 ?_) (fun c5 => sx_h82 post ho (by omega) (fun a b => h 8 ?_) (fun c6 => h 1 ?_)))
        all_goals
          unfold sc_hin
          repeat' split
          all_goals omega
      refine pk_eq o 19 (fun c3 => pk_lt rc R (fun c4 => J (by omega)) (fun c4 => h 6 ?_) rfl rfl (by omega) (by omega)) (fun c3 => J (by omega)) rfl rfl (by omega) (by omega)
      unfold sc_hin
      repeat' split
      all_goals omega
    · unfold sc_hin
      repeat' split
      all_goals omega
  · unfold sc_hin
    repeat' split
    all_goals omega
/-! what hinders, Y -/
theorem sy_h118 (post : Int32 → SY → Prop) {o n : Nat} (ho : o ≤ 20) (hb : co ≤ 8 ∧ Q ≤ 8) (h1 : o = 16 → Q ≤ co → post 8 (nI P, nI S, nI R, nI Q, nI sz, nI d, nI rc, nI ci, nI co, nI st, nI pc, ops, args, stk, ret, yi, yo)) (h2 : ¬ (o = 16 ∧ Q ≤ co) → wY_step_138 post (nI o) (nI n) (nI P) (nI S) (nI R) (nI Q) (nI sz) (nI d) (nI rc) (nI ci) (nI co) (nI st) (nI pc) ops args stk ret yi yo) : wY_step_118 post (nI o) (nI n) (nI P) (nI S) (nI R) (nI Q) (nI sz) (nI d) (nI rc) (nI ci) (nI co) (nI st) (nI pc) ops args stk ret yi yo :=
  pk_eq o 16 (fun c => pk_lt co Q (fun c2 => h2 (by omega)) (fun c2 => h1 c c2)) (fun c => h2 (by omega))
theorem sy_h102 (post : Int32 → SY → Prop) {o n : Nat} (ho : o ≤ 20) (hb : ci ≤ 8) (h1 : o = 15 → ci = 0 → post 7 (nI P, nI S, nI R, nI Q, nI sz, nI d, nI rc, nI ci, nI co, nI st, nI pc, ops, args, stk, ret, yi, yo)) (h2 : ¬ (o = 15 ∧ ci = 0) → wY_step_118 post (nI o) (nI n) (nI P) (nI S) (nI R) (nI Q) (nI sz) (nI d) (nI rc) (nI ci) (nI co) (nI st) (nI pc) ops args stk ret yi yo) : wY_step_102 post (nI o) (nI n) (nI P) (nI S) (nI R) (nI Q) (nI sz) (nI d) (nI rc) (nI ci) (nI co) (nI st) (nI pc) ops args stk ret yi yo :=
  pk_eq o 15 (fun c => pk_eq ci 0 (fun c2 => h1 c c2) (fun c2 => h2 (by omega))) (fun c => h2 (by omega))
theorem sy_h87 (post : Int32 → SY → Prop) {o n : Nat} (ho : o ≤ 20) (hb : rc ≤ 8) (h1 : o = 20 → rc = 0 → post 5 (nI P, nI S, nI R, nI Q, nI sz, nI d, nI rc, nI ci, nI co, nI st, nI pc, ops, args, stk, ret, yi, yo)) (h2 : ¬ (o = 20 ∧ rc = 0) → wY_step_102 post (nI o) (nI n) (nI P) (nI S) (nI R) (nI Q) (nI sz) (nI d) (nI rc) (nI ci) (nI co) (nI st) (nI pc) ops args stk ret yi yo) : wY_step_87 post (nI o) (nI n) (nI P) (nI S) (nI R) (nI Q) (nI sz) (nI d) (nI rc) (nI ci) (nI co) (nI st) (nI pc) ops args stk ret yi yo :=
  pk_eq o 20 (fun c => pk_eq rc 0 (fun c2 => h1 c c2) (fun c2 => h2 (by omega))) (fun c => h2 (by omega))
theorem sy_step (post : Int32 → SY → Prop) {o : Nat} (ho : o ≤ 20) (hb : S ≤ 32 ∧ R ≤ 8 ∧ Q ≤ 8 ∧ d ≤ S ∧ rc ≤ R ∧ ci ≤ Q ∧ co ≤ Q) (hs : sz ≤ 24) (hpc : pc < sz) (hop : ops pc = nI o) (h1 : sc_hin o d S rc R ci co Q = 1 → wY_step_138 post (nI o) (nI (sc_nd o)) (nI P) (nI S) (nI R) (nI Q) (nI sz) (nI d) (nI rc) (nI ci) (nI co) (nI st) (nI pc) ops args stk ret yi yo) (h : ∀ k, sc_hin o d S rc R ci co Q = k → k ≠ 1 → post (nI k) (nI P, nI S, nI R, nI Q, nI sz, nI d, nI rc, nI ci, nI co, nI st, nI pc, ops, args, stk, ret, yi, yo)) : wpY_step post (nI P, nI S, nI R, nI Q, nI sz, nI d, nI rc, nI ci, nI co, nI st, nI pc, ops, args, stk, ret, yi, yo) := by
  have hn := sc_nd_le o
  have hg := sc_gr_le o
  unfold wpY_step
  refine br_f (nI_pos (by omega)) (br_t (nI_lt hpc (by omega)) ⟨vp_in_nI (by omega) (by omega), nm_r (e' := nI o) (by rw [nI_clamp (by omega)]; exact hop) ?_⟩)
  refine sy_need o ho _ ?_
  refine sy_growth o ho _ ?_
  refine pk_le (sc_nd o) d (fun c => ?_) (fun c => h 3 ?_ (by decide)) rfl rfl (by omega) (by omega)
  · refine pk_le (d + sc_gr o - 1) S (fun c2 => ?_) (fun c2 => h 4 ?_ (by decide)) (sc_dg ho c) rfl (by omega) (by omega)
    · have J : ¬ (o = 19 ∧ R ≤ rc) → wY_step_87 post (nI o) (nI (sc_nd o)) (nI P) (nI S) (nI R) (nI Q) (nI sz) (nI d) (nI rc) (nI ci) (nI co) (nI st) (nI pc) ops args stk ret yi yo := fun c3 => by
        refine sy_h87 post ho (by omega) (fun a b => h 5 ?_ (by decide)) (fun c4 => sy_h102 post ho (by omega) (fun a b => h 7 ?_ (by decide)) (fun c5 => sy_h118 post ho (by omega) (fun a b => h 8 ?_ (by decide)) (fun c6 => h1 ?_)))
        all_goals
          unfold sc_hin
          repeat' split
          all_goals omega
      refine pk_eq o 19 (fun c3 => pk_lt rc R (fun c4 => J (by omega)) (fun c4 => h 6 ?_ (by decide)) rfl rfl (by omega) (by omega)) (fun c3 => J (by omega)) rfl rfl (by omega) (by omega)
      unfold sc_hin
      repeat' split
      all_goals omega
    · unfold sc_hin
      repeat' split
      all_goals omega
  · unfold sc_hin
    repeat' split
    all_goals omega
theorem sc_hin_r (o d S rc R ci co Q : Nat) : sc_hin o d S rc R ci co Q = 1 ∨ (3 ≤ sc_hin o d S rc R ci co Q ∧ sc_hin o d S rc R ci co Q ≤ 6) ∨ sc_hin o d S rc R ci co Q = 7 ∨ sc_hin o d S rc R ci co Q = 8 := by
  unfold sc_hin
  repeat' split
  all_goals omega
theorem sc_hin_1 {o d S rc R ci co Q : Nat} (h : sc_hin o d S rc R ci co Q = 1) : sc_nd o ≤ d ∧ d + sc_gr o - 1 ≤ S ∧ ¬ (o = 19 ∧ R ≤ rc) ∧ ¬ (o = 20 ∧ rc = 0) ∧ ¬ (o = 15 ∧ ci = 0) ∧ ¬ (o = 16 ∧ Q ≤ co) := by
  unfold sc_hin at h
  repeat' split at h
  all_goals omega
end SCH
end
section
section SCO
variable {P S R Q st pc sz d rc fi ci fo co : Nat} {ops args stk ret xi xo yi yo : Nat → Int32}
/-! the reference's effect, up to its switch -/
theorem sy_eff0 (post : SY → Prop) {o a : Int32} (h : wY_effect_72 post o a 0 0 0 (nI P) (nI S) (nI R) (nI Q) (nI sz) (nI d) (nI rc) (nI ci) (nI co) (nI st) (nI pc) ops args stk ret yi yo) : wpY_effect post (nI P, nI S, nI R, nI Q, nI sz, nI d, nI rc, nI ci, nI co, nI st, nI pc, ops, args, stk, ret, yi, yo) o a 0 := by
  unfold wpY_effect
  refine nm_r (e' := nI d) (Int32.sub_zero _) (br_t (by decide) ?_)
  unfold wY_effect_28
  refine br_t (by decide) ?_
  unfold wY_effect_50
  exact br_t (by decide) h
theorem sy_eff1 (post : SY → Prop) {o a : Int32} (hd : d < 32) (h : wY_effect_72 post o a (stk d) 0 0 (nI P) (nI S) (nI R) (nI Q) (nI sz) (nI d) (nI rc) (nI ci) (nI co) (nI st) (nI pc) ops args stk ret yi yo) : wpY_effect post (nI P, nI S, nI R, nI Q, nI sz, nI (d + 1), nI rc, nI ci, nI co, nI st, nI pc, ops, args, stk, ret, yi, yo) o a 1 := by
  unfold wpY_effect
  refine nm_r (nI_pred d) (br_f (by decide) ⟨vp_in_nI hd (by omega), ?_⟩)
  rw [nI_clamp (n := d) (by omega)]
  unfold wY_effect_28
  refine br_t (by decide) ?_
  unfold wY_effect_50
  exact br_t (by decide) h
theorem sy_eff2 (post : SY → Prop) {o a : Int32} (hd : d + 1 < 32) (h : wY_effect_72 post o a (stk d) (stk (d + 1)) 0 (nI P) (nI S) (nI R) (nI Q) (nI sz) (nI d) (nI rc) (nI ci) (nI co) (nI st) (nI pc) ops args stk ret yi yo) : wpY_effect post (nI P, nI S, nI R, nI Q, nI sz, nI (d + 2), nI rc, nI ci, nI co, nI st, nI pc, ops, args, stk, ret, yi, yo) o a 2 := by
  unfold wpY_effect
  refine nm_r (sc_s2 d) (br_f (by decide) ⟨vp_in_nI (by omega) (by omega), ?_⟩)
  rw [nI_clamp (n := d) (by omega)]
  unfold wY_effect_28
  refine br_f (by decide) ?_
  rw [nI_1 d, nI_clamp (n := d + 1) (by omega)]
  refine ⟨vp_in_nI (by omega) (by omega), ?_⟩
  unfold wY_effect_50
  exact br_t (by decide) h
theorem sy_eff3 (post : SY → Prop) {o a : Int32} (hd : d + 2 < 32) (h : wY_effect_72 post o a (stk d) (stk (d + 1)) (stk (d + 2)) (nI P) (nI S) (nI R) (nI Q) (nI sz) (nI d) (nI rc) (nI ci) (nI co) (nI st) (nI pc) ops args stk ret yi yo) : wpY_effect post (nI P, nI S, nI R, nI Q, nI sz, nI (d + 3), nI rc, nI ci, nI co, nI st, nI pc, ops, args, stk, ret, yi, yo) o a 3 := by
  unfold wpY_effect
  refine nm_r (sc_s3 d) (br_f (by decide) ⟨vp_in_nI (by omega) (by omega), ?_⟩)
  rw [nI_clamp (n := d) (by omega)]
  unfold wY_effect_28
  refine br_f (by decide) ?_
  rw [nI_1 d, nI_clamp (n := d + 1) (by omega)]
  refine ⟨vp_in_nI (by omega) (by omega), ?_⟩
  unfold wY_effect_50
  refine br_f (by decide) ?_
  rw [sc_p2 d, nI_clamp (n := d + 2) (by omega)]
  exact ⟨vp_in_nI (by omega) (by omega), h⟩
theorem sy_sh (post : SY → Prop) (x7 : Int32) (y0 : Nat → Int32) {c : Nat} (hc : c + 1 ≤ 8) (h : post (nI P, nI S, nI R, nI Q, nI sz, nI d, nI rc, nI c, nI co, nI st, x7, ops, args, stk, ret, sc_sh y0 c, yo)) : ∀ m i, i + m = c → wY_effect_393 post x7 (nI P) (nI S) (nI R) (nI Q) (nI sz) (nI d) (nI rc) (nI (c + 1)) (nI co) (nI st) (nI pc) (m + 1) (nI (i + 1)) ops args stk ret (sc_sh y0 i) yo := by
  intro m
  induction m with
  | zero =>
    intro i hi
    obtain rfl : i = c := by omega
    exact br_t (nI_le (Nat.le_refl _) (by omega)) (nm_r (nI_pred i) h)
  | succ m ih =>
    intro i hi
    exact br_f (nI_ge (by omega) (by omega)) ⟨vp_in_nI (by omega) (by omega), by rw [nI_pred i]; exact vp_in_nI (by omega) (by omega), nm_r (e' := sc_sh y0 (i + 1)) (by rw [nI_pred i, nI_clamp (n := i) (by omega), nI_clamp (n := i + 1) (by omega)]; exact sc_sh_s y0 i) (nm_r (nI_1 (i + 1)) (ih (i + 1) (by omega)))⟩
theorem sy_tk (post : Int32 → SY → Prop) (x1 : Int32) (y0 : Nat → Int32) {c : Nat} (hc : c + 1 ≤ 8) (h : post x1 (nI P, nI S, nI R, nI Q, nI sz, nI d, nI rc, nI ci, nI c, nI st, nI pc, ops, args, stk, ret, yi, sc_sh y0 c)) : ∀ m i, i + m = c → wY_take_18 post x1 (nI P) (nI S) (nI R) (nI Q) (nI sz) (nI d) (nI rc) (nI ci) (nI (c + 1)) (nI st) (nI pc) (m + 1) (nI (i + 1)) ops args stk ret yi (sc_sh y0 i) := by
  intro m
  induction m with
  | zero =>
    intro i hi
    obtain rfl : i = c := by omega
    exact br_t (nI_le (Nat.le_refl _) (by omega)) (nm_r (nI_pred i) h)
  | succ m ih =>
    intro i hi
    exact br_f (nI_ge (by omega) (by omega)) ⟨vp_in_nI (by omega) (by omega), by rw [nI_pred i]; exact vp_in_nI (by omega) (by omega), nm_r (e' := sc_sh y0 (i + 1)) (by rw [nI_pred i, nI_clamp (n := i) (by omega), nI_clamp (n := i + 1) (by omega)]; exact sc_sh_s y0 i) (nm_r (nI_1 (i + 1)) (ih (i + 1) (by omega)))⟩
theorem sx_o1 (post : Int32 → SX → Prop) (hpc : pc < 24) (hop : ops pc = nI 1) (hb : S ≤ 32 ∧ R ≤ 8 ∧ Q ≤ 8 ∧ d ≤ S ∧ rc ≤ R ∧ ci ≤ Q ∧ co ≤ Q) (hS : d + 1 ≤ S) (hh : sc_hin 1 d S rc R ci co Q = 1) (h : post 1 (nI P, nI S, nI R, nI Q, nI st, nI (pc + 1), nI sz, nI (d + 1), nI rc, nI fi, nI ci, nI fo, nI co, ops, args, upd stk d (args pc), ret, xi, xo)) : wpX_executeOne post (nI P, nI S, nI R, nI Q, nI st, nI pc, nI sz, nI d, nI rc, nI fi, nI ci, nI fo, nI co, ops, args, stk, ret, xi, xo) := by
  have cp : (nI pc).toNatClampNeg = pc := nI_clamp (by omega)
  unfold wpX_executeOne
  refine ⟨vp_in_nI hpc (by omega), nm_r (e' := (1 : Int32)) (by rw [cp]; exact hop) ⟨vp_in_nI hpc (by omega), nm_r (e' := args pc) (by rw [cp]) ?_⟩⟩
  refine sx_hin (o := 1) _ (by decide) hb (fun k ek => ?_)
  rw [hh] at ek
  subst ek
  refine br_t rfl (br_f (by decide) (br_t (by decide) (br_t (by decide) (br_t (by decide) ?_))))
  unfold wpX_arrange
  refine br_t rfl ?_
  refine sx_push (d := d) _ (by omega) ?_
  unfold wX_executeOne_110
  exact nm_r (nI_1 pc) h
theorem sy_o1 (post : Int32 → SY → Prop) (hpc : pc < 24) (hS2 : S ≤ 32) (hD : d ≤ S) (hS : d + 1 ≤ S) (h : post 1 (nI P, nI S, nI R, nI Q, nI sz, nI (d + 1), nI rc, nI ci, nI co, nI st, nI (pc + 1), ops, args, upd stk d (args pc), ret, yi, yo)) : wY_step_138 post 1 0 (nI P) (nI S) (nI R) (nI Q) (nI sz) (nI d) (nI rc) (nI ci) (nI co) (nI st) (nI pc) ops args stk ret yi yo := by
  unfold wY_step_138
  refine ⟨vp_in_nI hpc (by omega), ?_⟩
  rw [nI_clamp (n := pc) (by omega)]
  refine sy_eff0 _ ?_
  unfold wY_effect_72
  refine nm_r (nI_1 pc) (br_f (by decide) (br_f (by decide) (br_f (by decide) (br_t rfl ?_))))
  refine sy_push (d := d) _ (by omega) hS2 ?_
  exact br_f (by decide) h
theorem sx_o2 (post : Int32 → SX → Prop) (hpc : pc < 24) (hop : ops pc = nI 2) (hb : S ≤ 32 ∧ R ≤ 8 ∧ Q ≤ 8 ∧ d + 1 ≤ S ∧ rc ≤ R ∧ ci ≤ Q ∧ co ≤ Q) (hS : d + 2 ≤ S) (hh : sc_hin 2 (d + 1) S rc R ci co Q = 1) (h : post 1 (nI P, nI S, nI R, nI Q, nI st, nI (pc + 1), nI sz, nI (d + 2), nI rc, nI fi, nI ci, nI fo, nI co, ops, args, upd stk (d + 1) (stk d), ret, xi, xo)) : wpX_executeOne post (nI P, nI S, nI R, nI Q, nI st, nI pc, nI sz, nI (d + 1), nI rc, nI fi, nI ci, nI fo, nI co, ops, args, stk, ret, xi, xo) := by
  have cp : (nI pc).toNatClampNeg = pc := nI_clamp (by omega)
  unfold wpX_executeOne
  refine ⟨vp_in_nI hpc (by omega), nm_r (e' := (2 : Int32)) (by rw [cp]; exact hop) ⟨vp_in_nI hpc (by omega), nm_r (e' := args pc) (by rw [cp]) ?_⟩⟩
  refine sx_hin (o := 2) _ (by decide) hb (fun k ek => ?_)
  rw [hh] at ek
  subst ek
  refine br_t rfl (br_f (by decide) (br_t (by decide) (br_t (by decide) (br_t (by decide) ?_))))
  unfold wpX_arrange
  refine br_f (by decide) (br_t rfl ?_)
  rw [nI_pred d, nI_clamp (n := d) (by omega)]
  refine ⟨vp_in_nI (by omega) (by omega), ?_⟩
  refine sx_push (d := d + 1) _ (by omega) ?_
  unfold wX_executeOne_110
  exact nm_r (nI_1 pc) h
theorem sy_o2 (post : Int32 → SY → Prop) (hpc : pc < 24) (hS2 : S ≤ 32) (hD : d + 1 ≤ S) (hS : d + 2 ≤ S) (h : post 1 (nI P, nI S, nI R, nI Q, nI sz, nI (d + 2), nI rc, nI ci, nI co, nI st, nI (pc + 1), ops, args, upd (upd stk d (stk d)) (d + 1) (stk d), ret, yi, yo)) : wY_step_138 post 2 1 (nI P) (nI S) (nI R) (nI Q) (nI sz) (nI (d + 1)) (nI rc) (nI ci) (nI co) (nI st) (nI pc) ops args stk ret yi yo := by
  unfold wY_step_138
  refine ⟨vp_in_nI hpc (by omega), ?_⟩
  rw [nI_clamp (n := pc) (by omega)]
  refine sy_eff1 _ (by omega) ?_
  unfold wY_effect_72
  refine nm_r (nI_1 pc) (br_f (by decide) (br_f (by decide) (br_f (by decide) (br_f (by decide) (br_t rfl ?_)))))
  refine sy_push (d := d) _ (by omega) hS2 ?_
  refine sy_push (d := d + 1) _ (by omega) hS2 ?_
  exact br_f (by decide) h
theorem sx_o3 (post : Int32 → SX → Prop) (hpc : pc < 24) (hop : ops pc = nI 3) (hb : S ≤ 32 ∧ R ≤ 8 ∧ Q ≤ 8 ∧ d + 1 ≤ S ∧ rc ≤ R ∧ ci ≤ Q ∧ co ≤ Q) (hS : d ≤ S) (hh : sc_hin 3 (d + 1) S rc R ci co Q = 1) (h : post 1 (nI P, nI S, nI R, nI Q, nI st, nI (pc + 1), nI sz, nI d, nI rc, nI fi, nI ci, nI fo, nI co, ops, args, stk, ret, xi, xo)) : wpX_executeOne post (nI P, nI S, nI R, nI Q, nI st, nI pc, nI sz, nI (d + 1), nI rc, nI fi, nI ci, nI fo, nI co, ops, args, stk, ret, xi, xo) := by
  have cp : (nI pc).toNatClampNeg = pc := nI_clamp (by omega)
  unfold wpX_executeOne
  refine ⟨vp_in_nI hpc (by omega), nm_r (e' := (3 : Int32)) (by rw [cp]; exact hop) ⟨vp_in_nI hpc (by omega), nm_r (e' := args pc) (by rw [cp]) ?_⟩⟩
  refine sx_hin (o := 3) _ (by decide) hb (fun k ek => ?_)
  rw [hh] at ek
  subst ek
  refine br_t rfl (br_f (by decide) (br_t (by decide) (br_t (by decide) (br_t (by decide) ?_))))
  unfold wpX_arrange
  refine br_f (by decide) (br_f (by decide) (br_t rfl ?_))
  refine sx_pop (d := d) _ (by omega) ?_
  unfold wX_executeOne_110
  exact nm_r (nI_1 pc) h
theorem sy_o3 (post : Int32 → SY → Prop) (hpc : pc < 24) (hS2 : S ≤ 32) (hD : d + 1 ≤ S) (hS : d ≤ S) (h : post 1 (nI P, nI S, nI R, nI Q, nI sz, nI d, nI rc, nI ci, nI co, nI st, nI (pc + 1), ops, args, stk, ret, yi, yo)) : wY_step_138 post 3 1 (nI P) (nI S) (nI R) (nI Q) (nI sz) (nI (d + 1)) (nI rc) (nI ci) (nI co) (nI st) (nI pc) ops args stk ret yi yo := by
  unfold wY_step_138
  refine ⟨vp_in_nI hpc (by omega), ?_⟩
  rw [nI_clamp (n := pc) (by omega)]
  refine sy_eff1 _ (by omega) ?_
  unfold wY_effect_72
  refine nm_r (nI_1 pc) (br_f (by decide) (br_f (by decide) (br_f (by decide) (br_f (by decide) (br_f (by decide) (br_t rfl ?_))))))
  exact br_f (by decide) h
theorem sx_o4 (post : Int32 → SX → Prop) (hpc : pc < 24) (hop : ops pc = nI 4) (hb : S ≤ 32 ∧ R ≤ 8 ∧ Q ≤ 8 ∧ d + 2 ≤ S ∧ rc ≤ R ∧ ci ≤ Q ∧ co ≤ Q) (hS : d + 2 ≤ S) (hh : sc_hin 4 (d + 2) S rc R ci co Q = 1) (h : post 1 (nI P, nI S, nI R, nI Q, nI st, nI (pc + 1), nI sz, nI (d + 2), nI rc, nI fi, nI ci, nI fo, nI co, ops, args, upd (upd stk d (stk (d + 1))) (d + 1) (stk d), ret, xi, xo)) : wpX_executeOne post (nI P, nI S, nI R, nI Q, nI st, nI pc, nI sz, nI (d + 2), nI rc, nI fi, nI ci, nI fo, nI co, ops, args, stk, ret, xi, xo) := by
  have cp : (nI pc).toNatClampNeg = pc := nI_clamp (by omega)
  unfold wpX_executeOne
  refine ⟨vp_in_nI hpc (by omega), nm_r (e' := (4 : Int32)) (by rw [cp]; exact hop) ⟨vp_in_nI hpc (by omega), nm_r (e' := args pc) (by rw [cp]) ?_⟩⟩
  refine sx_hin (o := 4) _ (by decide) hb (fun k ek => ?_)
  rw [hh] at ek
  subst ek
  refine br_t rfl (br_f (by decide) (br_t (by decide) (br_t (by decide) (br_t (by decide) ?_))))
  unfold wpX_arrange
  refine br_f (by decide) (br_f (by decide) (br_f (by decide) (br_f (by decide) ?_)))
  unfold wpX_arrangePair
  refine sx_pop (d := d + 1) _ (by omega) ?_
  refine sx_pop (d := d) _ (by omega) ?_
  refine br_f (by decide) (br_f (by decide) (br_t rfl ?_))
  refine sx_push (d := d) _ (by omega) ?_
  refine sx_push (d := d + 1) _ (by omega) ?_
  unfold wX_executeOne_110
  exact nm_r (nI_1 pc) h
theorem sy_o4 (post : Int32 → SY → Prop) (hpc : pc < 24) (hS2 : S ≤ 32) (hD : d + 2 ≤ S) (hS : d + 2 ≤ S) (h : post 1 (nI P, nI S, nI R, nI Q, nI sz, nI (d + 2), nI rc, nI ci, nI co, nI st, nI (pc + 1), ops, args, upd (upd stk d (stk (d + 1))) (d + 1) (stk d), ret, yi, yo)) : wY_step_138 post 4 2 (nI P) (nI S) (nI R) (nI Q) (nI sz) (nI (d + 2)) (nI rc) (nI ci) (nI co) (nI st) (nI pc) ops args stk ret yi yo := by
  unfold wY_step_138
  refine ⟨vp_in_nI hpc (by omega), ?_⟩
  rw [nI_clamp (n := pc) (by omega)]
  refine sy_eff2 _ (by omega) ?_
  unfold wY_effect_72
  refine nm_r (nI_1 pc) (br_f (by decide) (br_f (by decide) (br_f (by decide) (br_f (by decide) (br_f (by decide) (br_f (by decide) (br_t rfl ?_)))))))
  refine sy_push (d := d) _ (by omega) hS2 ?_
  refine sy_push (d := d + 1) _ (by omega) hS2 ?_
  exact br_f (by decide) h
theorem sx_o5 (post : Int32 → SX → Prop) (hpc : pc < 24) (hop : ops pc = nI 5) (hb : S ≤ 32 ∧ R ≤ 8 ∧ Q ≤ 8 ∧ d + 2 ≤ S ∧ rc ≤ R ∧ ci ≤ Q ∧ co ≤ Q) (hS : d + 3 ≤ S) (hh : sc_hin 5 (d + 2) S rc R ci co Q = 1) (h : post 1 (nI P, nI S, nI R, nI Q, nI st, nI (pc + 1), nI sz, nI (d + 3), nI rc, nI fi, nI ci, nI fo, nI co, ops, args, upd (upd (upd stk d (stk d)) (d + 1) (stk (d + 1))) (d + 2) (stk d), ret, xi, xo)) : wpX_executeOne post (nI P, nI S, nI R, nI Q, nI st, nI pc, nI sz, nI (d + 2), nI rc, nI fi, nI ci, nI fo, nI co, ops, args, stk, ret, xi, xo) := by
  have cp : (nI pc).toNatClampNeg = pc := nI_clamp (by omega)
  unfold wpX_executeOne
  refine ⟨vp_in_nI hpc (by omega), nm_r (e' := (5 : Int32)) (by rw [cp]; exact hop) ⟨vp_in_nI hpc (by omega), nm_r (e' := args pc) (by rw [cp]) ?_⟩⟩
  refine sx_hin (o := 5) _ (by decide) hb (fun k ek => ?_)
  rw [hh] at ek
  subst ek
  refine br_t rfl (br_f (by decide) (br_t (by decide) (br_t (by decide) (br_t (by decide) ?_))))
  unfold wpX_arrange
  refine br_f (by decide) (br_f (by decide) (br_f (by decide) (br_f (by decide) ?_)))
  unfold wpX_arrangePair
  refine sx_pop (d := d + 1) _ (by omega) ?_
  refine sx_pop (d := d) _ (by omega) ?_
  refine br_f (by decide) (br_f (by decide) (br_f (by decide) (br_t rfl ?_)))
  refine sx_push (d := d) _ (by omega) ?_
  refine sx_push (d := d + 1) _ (by omega) ?_
  refine sx_push (d := d + 2) _ (by omega) ?_
  unfold wX_executeOne_110
  exact nm_r (nI_1 pc) h
theorem sy_o5 (post : Int32 → SY → Prop) (hpc : pc < 24) (hS2 : S ≤ 32) (hD : d + 2 ≤ S) (hS : d + 3 ≤ S) (h : post 1 (nI P, nI S, nI R, nI Q, nI sz, nI (d + 3), nI rc, nI ci, nI co, nI st, nI (pc + 1), ops, args, upd (upd (upd stk d (stk d)) (d + 1) (stk (d + 1))) (d + 2) (stk d), ret, yi, yo)) : wY_step_138 post 5 2 (nI P) (nI S) (nI R) (nI Q) (nI sz) (nI (d + 2)) (nI rc) (nI ci) (nI co) (nI st) (nI pc) ops args stk ret yi yo := by
  unfold wY_step_138
  refine ⟨vp_in_nI hpc (by omega), ?_⟩
  rw [nI_clamp (n := pc) (by omega)]
  refine sy_eff2 _ (by omega) ?_
  unfold wY_effect_72
  refine nm_r (nI_1 pc) (br_f (by decide) (br_f (by decide) (br_f (by decide) (br_f (by decide) (br_f (by decide) (br_f (by decide) (br_f (by decide) (br_t rfl ?_))))))))
  refine sy_push (d := d) _ (by omega) hS2 ?_
  refine sy_push (d := d + 1) _ (by omega) hS2 ?_
  refine sy_push (d := d + 2) _ (by omega) hS2 ?_
  exact br_f (by decide) h
theorem sx_o6 (post : Int32 → SX → Prop) (hpc : pc < 24) (hop : ops pc = nI 6) (hb : S ≤ 32 ∧ R ≤ 8 ∧ Q ≤ 8 ∧ d + 3 ≤ S ∧ rc ≤ R ∧ ci ≤ Q ∧ co ≤ Q) (hS : d + 3 ≤ S) (hh : sc_hin 6 (d + 3) S rc R ci co Q = 1) (h : post 1 (nI P, nI S, nI R, nI Q, nI st, nI (pc + 1), nI sz, nI (d + 3), nI rc, nI fi, nI ci, nI fo, nI co, ops, args, upd (upd (upd stk d (stk (d + 1))) (d + 1) (stk (d + 2))) (d + 2) (stk d), ret, xi, xo)) : wpX_executeOne post (nI P, nI S, nI R, nI Q, nI st, nI pc, nI sz, nI (d + 3), nI rc, nI fi, nI ci, nI fo, nI co, ops, args, stk, ret, xi, xo) := by
  have cp : (nI pc).toNatClampNeg = pc := nI_clamp (by omega)
  unfold wpX_executeOne
  refine ⟨vp_in_nI hpc (by omega), nm_r (e' := (6 : Int32)) (by rw [cp]; exact hop) ⟨vp_in_nI hpc (by omega), nm_r (e' := args pc) (by rw [cp]) ?_⟩⟩
  refine sx_hin (o := 6) _ (by decide) hb (fun k ek => ?_)
  rw [hh] at ek
  subst ek
  refine br_t rfl (br_f (by decide) (br_t (by decide) (br_t (by decide) (br_t (by decide) ?_))))
  unfold wpX_arrange
  refine br_f (by decide) (br_f (by decide) (br_f (by decide) (br_t rfl ?_)))
  unfold wpX_rotate
  refine sx_pop (d := d + 2) _ (by omega) ?_
  refine sx_pop (d := d + 1) _ (by omega) ?_
  refine sx_pop (d := d) _ (by omega) ?_
  refine sx_push (d := d) _ (by omega) ?_
  refine sx_push (d := d + 1) _ (by omega) ?_
  refine sx_push (d := d + 2) _ (by omega) ?_
  unfold wX_executeOne_110
  exact nm_r (nI_1 pc) h
theorem sy_o6 (post : Int32 → SY → Prop) (hpc : pc < 24) (hS2 : S ≤ 32) (hD : d + 3 ≤ S) (hS : d + 3 ≤ S) (h : post 1 (nI P, nI S, nI R, nI Q, nI sz, nI (d + 3), nI rc, nI ci, nI co, nI st, nI (pc + 1), ops, args, upd (upd (upd stk d (stk (d + 1))) (d + 1) (stk (d + 2))) (d + 2) (stk d), ret, yi, yo)) : wY_step_138 post 6 3 (nI P) (nI S) (nI R) (nI Q) (nI sz) (nI (d + 3)) (nI rc) (nI ci) (nI co) (nI st) (nI pc) ops args stk ret yi yo := by
  unfold wY_step_138
  refine ⟨vp_in_nI hpc (by omega), ?_⟩
  rw [nI_clamp (n := pc) (by omega)]
  refine sy_eff3 _ (by omega) ?_
  unfold wY_effect_72
  refine nm_r (nI_1 pc) (br_f (by decide) (br_f (by decide) (br_f (by decide) (br_f (by decide) (br_f (by decide) (br_f (by decide) (br_f (by decide) (br_f (by decide) (br_t rfl ?_)))))))))
  refine sy_push (d := d) _ (by omega) hS2 ?_
  refine sy_push (d := d + 1) _ (by omega) hS2 ?_
  refine sy_push (d := d + 2) _ (by omega) hS2 ?_
  exact br_f (by decide) h
theorem sx_o7 (post : Int32 → SX → Prop) (hpc : pc < 24) (hop : ops pc = nI 7) (hb : S ≤ 32 ∧ R ≤ 8 ∧ Q ≤ 8 ∧ d + 2 ≤ S ∧ rc ≤ R ∧ ci ≤ Q ∧ co ≤ Q) (hS : d + 1 ≤ S) (hh : sc_hin 7 (d + 2) S rc R ci co Q = 1) (h : post 1 (nI P, nI S, nI R, nI Q, nI st, nI (pc + 1), nI sz, nI (d + 1), nI rc, nI fi, nI ci, nI fo, nI co, ops, args, upd stk d (stk (d + 1)), ret, xi, xo)) : wpX_executeOne post (nI P, nI S, nI R, nI Q, nI st, nI pc, nI sz, nI (d + 2), nI rc, nI fi, nI ci, nI fo, nI co, ops, args, stk, ret, xi, xo) := by
  have cp : (nI pc).toNatClampNeg = pc := nI_clamp (by omega)
  unfold wpX_executeOne
  refine ⟨vp_in_nI hpc (by omega), nm_r (e' := (7 : Int32)) (by rw [cp]; exact hop) ⟨vp_in_nI hpc (by omega), nm_r (e' := args pc) (by rw [cp]) ?_⟩⟩
  refine sx_hin (o := 7) _ (by decide) hb (fun k ek => ?_)
  rw [hh] at ek
  subst ek
  refine br_t rfl (br_f (by decide) (br_t (by decide) (br_t (by decide) (br_t (by decide) ?_))))
  unfold wpX_arrange
  refine br_f (by decide) (br_f (by decide) (br_f (by decide) (br_f (by decide) ?_)))
  unfold wpX_arrangePair
  refine sx_pop (d := d + 1) _ (by omega) ?_
  refine sx_pop (d := d) _ (by omega) ?_
  refine br_f (by decide) (br_f (by decide) (br_f (by decide) (br_f (by decide) (br_f (by decide) (br_t rfl ?_)))))
  unfold wX_arrangePair_93
  refine sx_push (d := d) _ (by omega) ?_
  unfold wX_executeOne_110
  exact nm_r (nI_1 pc) h
theorem sy_o7 (post : Int32 → SY → Prop) (hpc : pc < 24) (hS2 : S ≤ 32) (hD : d + 2 ≤ S) (hS : d + 1 ≤ S) (h : post 1 (nI P, nI S, nI R, nI Q, nI sz, nI (d + 1), nI rc, nI ci, nI co, nI st, nI (pc + 1), ops, args, upd stk d (stk (d + 1)), ret, yi, yo)) : wY_step_138 post 7 2 (nI P) (nI S) (nI R) (nI Q) (nI sz) (nI (d + 2)) (nI rc) (nI ci) (nI co) (nI st) (nI pc) ops args stk ret yi yo := by
  unfold wY_step_138
  refine ⟨vp_in_nI hpc (by omega), ?_⟩
  rw [nI_clamp (n := pc) (by omega)]
  refine sy_eff2 _ (by omega) ?_
  unfold wY_effect_72
  refine nm_r (nI_1 pc) (br_f (by decide) (br_f (by decide) (br_f (by decide) (br_f (by decide) (br_f (by decide) (br_f (by decide) (br_f (by decide) (br_f (by decide) (br_f (by decide) (br_t rfl ?_))))))))))
  refine sy_push (d := d) _ (by omega) hS2 ?_
  exact br_f (by decide) h
theorem sx_o8 (post : Int32 → SX → Prop) (hpc : pc < 24) (hop : ops pc = nI 8) (hb : S ≤ 32 ∧ R ≤ 8 ∧ Q ≤ 8 ∧ d + 2 ≤ S ∧ rc ≤ R ∧ ci ≤ Q ∧ co ≤ Q) (hS : d + 3 ≤ S) (hh : sc_hin 8 (d + 2) S rc R ci co Q = 1) (h : post 1 (nI P, nI S, nI R, nI Q, nI st, nI (pc + 1), nI sz, nI (d + 3), nI rc, nI fi, nI ci, nI fo, nI co, ops, args, upd (upd (upd stk d (stk (d + 1))) (d + 1) (stk d)) (d + 2) (stk (d + 1)), ret, xi, xo)) : wpX_executeOne post (nI P, nI S, nI R, nI Q, nI st, nI pc, nI sz, nI (d + 2), nI rc, nI fi, nI ci, nI fo, nI co, ops, args, stk, ret, xi, xo) := by
  have cp : (nI pc).toNatClampNeg = pc := nI_clamp (by omega)
  unfold wpX_executeOne
  refine ⟨vp_in_nI hpc (by omega), nm_r (e' := (8 : Int32)) (by rw [cp]; exact hop) ⟨vp_in_nI hpc (by omega), nm_r (e' := args pc) (by rw [cp]) ?_⟩⟩
  refine sx_hin (o := 8) _ (by decide) hb (fun k ek => ?_)
  rw [hh] at ek
  subst ek
  refine br_t rfl (br_f (by decide) (br_t (by decide) (br_t (by decide) (br_t (by decide) ?_))))
  unfold wpX_arrange
  refine br_f (by decide) (br_f (by decide) (br_f (by decide) (br_f (by decide) ?_)))
  unfold wpX_arrangePair
  refine sx_pop (d := d + 1) _ (by omega) ?_
  refine sx_pop (d := d) _ (by omega) ?_
  refine br_f (by decide) (br_f (by decide) (br_f (by decide) (br_f (by decide) (br_f (by decide) (br_f (by decide) (br_t rfl ?_))))))
  refine sx_push (d := d) _ (by omega) ?_
  refine sx_push (d := d + 1) _ (by omega) ?_
  refine sx_push (d := d + 2) _ (by omega) ?_
  unfold wX_executeOne_110
  exact nm_r (nI_1 pc) h
theorem sy_o8 (post : Int32 → SY → Prop) (hpc : pc < 24) (hS2 : S ≤ 32) (hD : d + 2 ≤ S) (hS : d + 3 ≤ S) (h : post 1 (nI P, nI S, nI R, nI Q, nI sz, nI (d + 3), nI rc, nI ci, nI co, nI st, nI (pc + 1), ops, args, upd (upd (upd stk d (stk (d + 1))) (d + 1) (stk d)) (d + 2) (stk (d + 1)), ret, yi, yo)) : wY_step_138 post 8 2 (nI P) (nI S) (nI R) (nI Q) (nI sz) (nI (d + 2)) (nI rc) (nI ci) (nI co) (nI st) (nI pc) ops args stk ret yi yo := by
  unfold wY_step_138
  refine ⟨vp_in_nI hpc (by omega), ?_⟩
  rw [nI_clamp (n := pc) (by omega)]
  refine sy_eff2 _ (by omega) ?_
  unfold wY_effect_72
  refine nm_r (nI_1 pc) (br_f (by decide) (br_f (by decide) (br_f (by decide) (br_f (by decide) (br_f (by decide) (br_f (by decide) (br_f (by decide) (br_f (by decide) (br_f (by decide) (br_f (by decide) (br_t rfl ?_)))))))))))
  refine sy_push (d := d) _ (by omega) hS2 ?_
  refine sy_push (d := d + 1) _ (by omega) hS2 ?_
  refine sy_push (d := d + 2) _ (by omega) hS2 ?_
  exact br_f (by decide) h
theorem sx_o9 (post : Int32 → SX → Prop) (hpc : pc < 24) (hop : ops pc = nI 9) (hb : S ≤ 32 ∧ R ≤ 8 ∧ Q ≤ 8 ∧ d + 1 ≤ S ∧ rc ≤ R ∧ ci ≤ Q ∧ co ≤ Q) (hS : d + 1 ≤ S) (hh : sc_hin 9 (d + 1) S rc R ci co Q = 1) (h : post 1 (nI P, nI S, nI R, nI Q, nI st, nI (pc + 1), nI sz, nI (d + 1), nI rc, nI fi, nI ci, nI fo, nI co, ops, args, upd stk d (stk d + args pc), ret, xi, xo)) : wpX_executeOne post (nI P, nI S, nI R, nI Q, nI st, nI pc, nI sz, nI (d + 1), nI rc, nI fi, nI ci, nI fo, nI co, ops, args, stk, ret, xi, xo) := by
  have cp : (nI pc).toNatClampNeg = pc := nI_clamp (by omega)
  unfold wpX_executeOne
  refine ⟨vp_in_nI hpc (by omega), nm_r (e' := (9 : Int32)) (by rw [cp]; exact hop) ⟨vp_in_nI hpc (by omega), nm_r (e' := args pc) (by rw [cp]) ?_⟩⟩
  refine sx_hin (o := 9) _ (by decide) hb (fun k ek => ?_)
  rw [hh] at ek
  subst ek
  refine br_t rfl (br_f (by decide) (br_t (by decide) (br_t (by decide) (br_f (by decide) ?_))))
  unfold wpX_calculate
  refine sx_pop (d := d) _ (by omega) ?_
  refine br_t rfl ?_
  refine sx_push (d := d) _ (by omega) ?_
  unfold wX_executeOne_110
  exact nm_r (nI_1 pc) h
theorem sy_o9 (post : Int32 → SY → Prop) (hpc : pc < 24) (hS2 : S ≤ 32) (hD : d + 1 ≤ S) (hS : d + 1 ≤ S) (h : post 1 (nI P, nI S, nI R, nI Q, nI sz, nI (d + 1), nI rc, nI ci, nI co, nI st, nI (pc + 1), ops, args, upd stk d (stk d + args pc), ret, yi, yo)) : wY_step_138 post 9 1 (nI P) (nI S) (nI R) (nI Q) (nI sz) (nI (d + 1)) (nI rc) (nI ci) (nI co) (nI st) (nI pc) ops args stk ret yi yo := by
  unfold wY_step_138
  refine ⟨vp_in_nI hpc (by omega), ?_⟩
  rw [nI_clamp (n := pc) (by omega)]
  refine sy_eff1 _ (by omega) ?_
  unfold wY_effect_72
  refine nm_r (nI_1 pc) (br_f (by decide) (br_f (by decide) (br_f (by decide) (br_f (by decide) (br_f (by decide) (br_f (by decide) (br_f (by decide) (br_f (by decide) (br_f (by decide) (br_f (by decide) (br_f (by decide) (br_t rfl ?_))))))))))))
  refine sy_push (d := d) _ (by omega) hS2 ?_
  exact br_f (by decide) h
theorem sx_o10 (post : Int32 → SX → Prop) (hpc : pc < 24) (hop : ops pc = nI 10) (hb : S ≤ 32 ∧ R ≤ 8 ∧ Q ≤ 8 ∧ d + 2 ≤ S ∧ rc ≤ R ∧ ci ≤ Q ∧ co ≤ Q) (hS : d + 1 ≤ S) (hh : sc_hin 10 (d + 2) S rc R ci co Q = 1) (h : post 1 (nI P, nI S, nI R, nI Q, nI st, nI (pc + 1), nI sz, nI (d + 1), nI rc, nI fi, nI ci, nI fo, nI co, ops, args, upd stk d ((stk d) + (stk (d + 1))), ret, xi, xo)) : wpX_executeOne post (nI P, nI S, nI R, nI Q, nI st, nI pc, nI sz, nI (d + 2), nI rc, nI fi, nI ci, nI fo, nI co, ops, args, stk, ret, xi, xo) := by
  have cp : (nI pc).toNatClampNeg = pc := nI_clamp (by omega)
  unfold wpX_executeOne
  refine ⟨vp_in_nI hpc (by omega), nm_r (e' := (10 : Int32)) (by rw [cp]; exact hop) ⟨vp_in_nI hpc (by omega), nm_r (e' := args pc) (by rw [cp]) ?_⟩⟩
  refine sx_hin (o := 10) _ (by decide) hb (fun k ek => ?_)
  rw [hh] at ek
  subst ek
  refine br_t rfl (br_f (by decide) (br_t (by decide) (br_t (by decide) (br_f (by decide) ?_))))
  unfold wpX_calculate
  refine sx_pop (d := d + 1) _ (by omega) ?_
  refine br_f (by decide) ?_
  refine sx_pop (d := d) _ (by omega) ?_
  unfold wpX_combine
  refine br_f (by decide) (br_f (by decide) (br_t rfl ?_))
  refine sx_push (d := d) _ (by omega) ?_
  unfold wX_executeOne_110
  exact nm_r (nI_1 pc) h
theorem sy_o10 (post : Int32 → SY → Prop) (hpc : pc < 24) (hS2 : S ≤ 32) (hD : d + 2 ≤ S) (hS : d + 1 ≤ S) (h : post 1 (nI P, nI S, nI R, nI Q, nI sz, nI (d + 1), nI rc, nI ci, nI co, nI st, nI (pc + 1), ops, args, upd stk d ((stk d) + (stk (d + 1))), ret, yi, yo)) : wY_step_138 post 10 2 (nI P) (nI S) (nI R) (nI Q) (nI sz) (nI (d + 2)) (nI rc) (nI ci) (nI co) (nI st) (nI pc) ops args stk ret yi yo := by
  unfold wY_step_138
  refine ⟨vp_in_nI hpc (by omega), ?_⟩
  rw [nI_clamp (n := pc) (by omega)]
  refine sy_eff2 _ (by omega) ?_
  unfold wY_effect_72
  refine nm_r (nI_1 pc) (br_f (by decide) (br_f (by decide) (br_f (by decide) (br_f (by decide) (br_f (by decide) (br_f (by decide) (br_f (by decide) (br_f (by decide) (br_f (by decide) (br_f (by decide) (br_f (by decide) (br_f (by decide) (br_t rfl ?_)))))))))))))
  refine sy_push (d := d) _ (by omega) hS2 ?_
  exact br_f (by decide) h
theorem sx_o11 (post : Int32 → SX → Prop) (hpc : pc < 24) (hop : ops pc = nI 11) (hb : S ≤ 32 ∧ R ≤ 8 ∧ Q ≤ 8 ∧ d + 2 ≤ S ∧ rc ≤ R ∧ ci ≤ Q ∧ co ≤ Q) (hS : d + 1 ≤ S) (hh : sc_hin 11 (d + 2) S rc R ci co Q = 1) (h : post 1 (nI P, nI S, nI R, nI Q, nI st, nI (pc + 1), nI sz, nI (d + 1), nI rc, nI fi, nI ci, nI fo, nI co, ops, args, upd stk d ((stk d) - (stk (d + 1))), ret, xi, xo)) : wpX_executeOne post (nI P, nI S, nI R, nI Q, nI st, nI pc, nI sz, nI (d + 2), nI rc, nI fi, nI ci, nI fo, nI co, ops, args, stk, ret, xi, xo) := by
  have cp : (nI pc).toNatClampNeg = pc := nI_clamp (by omega)
  unfold wpX_executeOne
  refine ⟨vp_in_nI hpc (by omega), nm_r (e' := (11 : Int32)) (by rw [cp]; exact hop) ⟨vp_in_nI hpc (by omega), nm_r (e' := args pc) (by rw [cp]) ?_⟩⟩
  refine sx_hin (o := 11) _ (by decide) hb (fun k ek => ?_)
  rw [hh] at ek
  subst ek
  refine br_t rfl (br_f (by decide) (br_t (by decide) (br_t (by decide) (br_f (by decide) ?_))))
  unfold wpX_calculate
  refine sx_pop (d := d + 1) _ (by omega) ?_
  refine br_f (by decide) ?_
  refine sx_pop (d := d) _ (by omega) ?_
  unfold wpX_combine
  refine br_f (by decide) (br_f (by decide) (br_f (by decide) (br_t rfl ?_)))
  refine sx_push (d := d) _ (by omega) ?_
  unfold wX_executeOne_110
  exact nm_r (nI_1 pc) h
theorem sy_o11 (post : Int32 → SY → Prop) (hpc : pc < 24) (hS2 : S ≤ 32) (hD : d + 2 ≤ S) (hS : d + 1 ≤ S) (h : post 1 (nI P, nI S, nI R, nI Q, nI sz, nI (d + 1), nI rc, nI ci, nI co, nI st, nI (pc + 1), ops, args, upd stk d ((stk d) - (stk (d + 1))), ret, yi, yo)) : wY_step_138 post 11 2 (nI P) (nI S) (nI R) (nI Q) (nI sz) (nI (d + 2)) (nI rc) (nI ci) (nI co) (nI st) (nI pc) ops args stk ret yi yo := by
  unfold wY_step_138
  refine ⟨vp_in_nI hpc (by omega), ?_⟩
  rw [nI_clamp (n := pc) (by omega)]
  refine sy_eff2 _ (by omega) ?_
  unfold wY_effect_72
  refine nm_r (nI_1 pc) (br_f (by decide) (br_f (by decide) (br_f (by decide) (br_f (by decide) (br_f (by decide) (br_f (by decide) (br_f (by decide) (br_f (by decide) (br_f (by decide) (br_f (by decide) (br_f (by decide) (br_f (by decide) (br_f (by decide) (br_t rfl ?_))))))))))))))
  refine sy_push (d := d) _ (by omega) hS2 ?_
  exact br_f (by decide) h
theorem sx_o12 (post : Int32 → SX → Prop) (hpc : pc < 24) (hop : ops pc = nI 12) (hb : S ≤ 32 ∧ R ≤ 8 ∧ Q ≤ 8 ∧ d + 2 ≤ S ∧ rc ≤ R ∧ ci ≤ Q ∧ co ≤ Q) (hS : d + 1 ≤ S) (hh : sc_hin 12 (d + 2) S rc R ci co Q = 1) (h : post 1 (nI P, nI S, nI R, nI Q, nI st, nI (pc + 1), nI sz, nI (d + 1), nI rc, nI fi, nI ci, nI fo, nI co, ops, args, upd stk d ((stk d) * (stk (d + 1))), ret, xi, xo)) : wpX_executeOne post (nI P, nI S, nI R, nI Q, nI st, nI pc, nI sz, nI (d + 2), nI rc, nI fi, nI ci, nI fo, nI co, ops, args, stk, ret, xi, xo) := by
  have cp : (nI pc).toNatClampNeg = pc := nI_clamp (by omega)
  unfold wpX_executeOne
  refine ⟨vp_in_nI hpc (by omega), nm_r (e' := (12 : Int32)) (by rw [cp]; exact hop) ⟨vp_in_nI hpc (by omega), nm_r (e' := args pc) (by rw [cp]) ?_⟩⟩
  refine sx_hin (o := 12) _ (by decide) hb (fun k ek => ?_)
  rw [hh] at ek
  subst ek
  refine br_t rfl (br_f (by decide) (br_t (by decide) (br_t (by decide) (br_f (by decide) ?_))))
  unfold wpX_calculate
  refine sx_pop (d := d + 1) _ (by omega) ?_
  refine br_f (by decide) ?_
  refine sx_pop (d := d) _ (by omega) ?_
  unfold wpX_combine
  refine br_f (by decide) (br_f (by decide) (br_f (by decide) (br_f (by decide) (br_t rfl ?_))))
  refine sx_push (d := d) _ (by omega) ?_
  unfold wX_executeOne_110
  exact nm_r (nI_1 pc) h
theorem sy_o12 (post : Int32 → SY → Prop) (hpc : pc < 24) (hS2 : S ≤ 32) (hD : d + 2 ≤ S) (hS : d + 1 ≤ S) (h : post 1 (nI P, nI S, nI R, nI Q, nI sz, nI (d + 1), nI rc, nI ci, nI co, nI st, nI (pc + 1), ops, args, upd stk d ((stk d) * (stk (d + 1))), ret, yi, yo)) : wY_step_138 post 12 2 (nI P) (nI S) (nI R) (nI Q) (nI sz) (nI (d + 2)) (nI rc) (nI ci) (nI co) (nI st) (nI pc) ops args stk ret yi yo := by
  unfold wY_step_138
  refine ⟨vp_in_nI hpc (by omega), ?_⟩
  rw [nI_clamp (n := pc) (by omega)]
  refine sy_eff2 _ (by omega) ?_
  unfold wY_effect_72
  refine nm_r (nI_1 pc) (br_f (by decide) (br_f (by decide) (br_f (by decide) (br_f (by decide) (br_f (by decide) (br_f (by decide) (br_f (by decide) (br_f (by decide) (br_f (by decide) (br_f (by decide) (br_f (by decide) (br_f (by decide) (br_f (by decide) (br_f (by decide) (br_t rfl ?_)))))))))))))))
  refine sy_push (d := d) _ (by omega) hS2 ?_
  exact br_f (by decide) h
theorem sx_o13 (post : Int32 → SX → Prop) (hpc : pc < 24) (hop : ops pc = nI 13) (hb : S ≤ 32 ∧ R ≤ 8 ∧ Q ≤ 8 ∧ d + 2 ≤ S ∧ rc ≤ R ∧ ci ≤ Q ∧ co ≤ Q) (hS : d + 1 ≤ S) (hh : sc_hin 13 (d + 2) S rc R ci co Q = 1) (h : post 1 (nI P, nI S, nI R, nI Q, nI st, nI (pc + 1), nI sz, nI (d + 1), nI rc, nI fi, nI ci, nI fo, nI co, ops, args, upd stk d ((stk d) ^^^ (stk (d + 1))), ret, xi, xo)) : wpX_executeOne post (nI P, nI S, nI R, nI Q, nI st, nI pc, nI sz, nI (d + 2), nI rc, nI fi, nI ci, nI fo, nI co, ops, args, stk, ret, xi, xo) := by
  have cp : (nI pc).toNatClampNeg = pc := nI_clamp (by omega)
  unfold wpX_executeOne
  refine ⟨vp_in_nI hpc (by omega), nm_r (e' := (13 : Int32)) (by rw [cp]; exact hop) ⟨vp_in_nI hpc (by omega), nm_r (e' := args pc) (by rw [cp]) ?_⟩⟩
  refine sx_hin (o := 13) _ (by decide) hb (fun k ek => ?_)
  rw [hh] at ek
  subst ek
  refine br_t rfl (br_f (by decide) (br_t (by decide) (br_t (by decide) (br_f (by decide) ?_))))
  unfold wpX_calculate
  refine sx_pop (d := d + 1) _ (by omega) ?_
  refine br_f (by decide) ?_
  refine sx_pop (d := d) _ (by omega) ?_
  unfold wpX_combine
  refine br_f (by decide) (br_f (by decide) (br_f (by decide) (br_f (by decide) (br_f (by decide) (br_t rfl ?_)))))
  refine sx_push (d := d) _ (by omega) ?_
  unfold wX_executeOne_110
  exact nm_r (nI_1 pc) h
theorem sy_o13 (post : Int32 → SY → Prop) (hpc : pc < 24) (hS2 : S ≤ 32) (hD : d + 2 ≤ S) (hS : d + 1 ≤ S) (h : post 1 (nI P, nI S, nI R, nI Q, nI sz, nI (d + 1), nI rc, nI ci, nI co, nI st, nI (pc + 1), ops, args, upd stk d ((stk d) ^^^ (stk (d + 1))), ret, yi, yo)) : wY_step_138 post 13 2 (nI P) (nI S) (nI R) (nI Q) (nI sz) (nI (d + 2)) (nI rc) (nI ci) (nI co) (nI st) (nI pc) ops args stk ret yi yo := by
  unfold wY_step_138
  refine ⟨vp_in_nI hpc (by omega), ?_⟩
  rw [nI_clamp (n := pc) (by omega)]
  refine sy_eff2 _ (by omega) ?_
  unfold wY_effect_72
  refine nm_r (nI_1 pc) (br_f (by decide) (br_f (by decide) (br_f (by decide) (br_f (by decide) (br_f (by decide) (br_f (by decide) (br_f (by decide) (br_f (by decide) (br_f (by decide) (br_f (by decide) (br_f (by decide) (br_f (by decide) (br_f (by decide) (br_f (by decide) (br_f (by decide) (br_t rfl ?_))))))))))))))))
  refine sy_push (d := d) _ (by omega) hS2 ?_
  exact br_f (by decide) h
theorem sx_o14 (post : Int32 → SX → Prop) (hpc : pc < 24) (hop : ops pc = nI 14) (hb : S ≤ 32 ∧ R ≤ 8 ∧ Q ≤ 8 ∧ d + 2 ≤ S ∧ rc ≤ R ∧ ci ≤ Q ∧ co ≤ Q) (hS : d + 1 ≤ S) (hh : sc_hin 14 (d + 2) S rc R ci co Q = 1) (h : post 1 (nI P, nI S, nI R, nI Q, nI st, nI (pc + 1), nI sz, nI (d + 1), nI rc, nI fi, nI ci, nI fo, nI co, ops, args, upd stk d (if (stk (d + 1)) ≤ (stk d) then 0 else 1), ret, xi, xo)) : wpX_executeOne post (nI P, nI S, nI R, nI Q, nI st, nI pc, nI sz, nI (d + 2), nI rc, nI fi, nI ci, nI fo, nI co, ops, args, stk, ret, xi, xo) := by
  have cp : (nI pc).toNatClampNeg = pc := nI_clamp (by omega)
  unfold wpX_executeOne
  refine ⟨vp_in_nI hpc (by omega), nm_r (e' := (14 : Int32)) (by rw [cp]; exact hop) ⟨vp_in_nI hpc (by omega), nm_r (e' := args pc) (by rw [cp]) ?_⟩⟩
  refine sx_hin (o := 14) _ (by decide) hb (fun k ek => ?_)
  rw [hh] at ek
  subst ek
  refine br_t rfl (br_f (by decide) (br_t (by decide) (br_t (by decide) (br_f (by decide) ?_))))
  unfold wpX_calculate
  refine sx_pop (d := d + 1) _ (by omega) ?_
  refine br_f (by decide) ?_
  refine sx_pop (d := d) _ (by omega) ?_
  unfold wpX_combine
  refine br_f (by decide) (br_t (by decide) (br_c (fun c => ?_) (fun c => ?_)))
  · rw [if_pos c] at h
    refine sx_push (d := d) _ (by omega) ?_
    unfold wX_executeOne_110
    exact nm_r (nI_1 pc) h
  · rw [if_neg c] at h
    refine sx_push (d := d) _ (by omega) ?_
    unfold wX_executeOne_110
    exact nm_r (nI_1 pc) h
theorem sy_o14 (post : Int32 → SY → Prop) (hpc : pc < 24) (hS2 : S ≤ 32) (hD : d + 2 ≤ S) (hS : d + 1 ≤ S) (h : post 1 (nI P, nI S, nI R, nI Q, nI sz, nI (d + 1), nI rc, nI ci, nI co, nI st, nI (pc + 1), ops, args, upd stk d (if (stk (d + 1)) ≤ (stk d) then 0 else 1), ret, yi, yo)) : wY_step_138 post 14 2 (nI P) (nI S) (nI R) (nI Q) (nI sz) (nI (d + 2)) (nI rc) (nI ci) (nI co) (nI st) (nI pc) ops args stk ret yi yo := by
  unfold wY_step_138
  refine ⟨vp_in_nI hpc (by omega), ?_⟩
  rw [nI_clamp (n := pc) (by omega)]
  refine sy_eff2 _ (by omega) ?_
  unfold wY_effect_72
  refine nm_r (nI_1 pc) (br_f (by decide) (br_f (by decide) (br_f (by decide) (br_f (by decide) (br_f (by decide) (br_f (by decide) (br_f (by decide) (br_f (by decide) (br_f (by decide) (br_f (by decide) (br_f (by decide) (br_f (by decide) (br_f (by decide) (br_f (by decide) (br_f (by decide) (br_f (by decide) (br_t rfl ?_)))))))))))))))))
  refine br_c (fun c => ?_) (fun c => ?_)
  · rw [if_pos c] at h
    unfold wY_effect_374
    refine sy_push (d := d) _ (by omega) hS2 ?_
    exact br_f (by decide) h
  · rw [if_neg c] at h
    unfold wY_effect_374
    refine sy_push (d := d) _ (by omega) hS2 ?_
    exact br_f (by decide) h
theorem sx_o0 (post : Int32 → SX → Prop) (hpc : pc < 24) (hop : ops pc = nI 0) (hb : S ≤ 32 ∧ R ≤ 8 ∧ Q ≤ 8 ∧ d ≤ S ∧ rc ≤ R ∧ ci ≤ Q ∧ co ≤ Q) (hh : sc_hin 0 (d) S (rc) R (ci) co Q = 1)  (h : post 2 (nI P, nI S, nI R, nI Q, nI 2, nI pc, nI sz, nI d, nI rc, nI fi, nI ci, nI fo, nI co, ops, args, stk, ret, xi, xo)) : wpX_executeOne post (nI P, nI S, nI R, nI Q, nI st, nI pc, nI sz, nI d, nI rc, nI fi, nI ci, nI fo, nI co, ops, args, stk, ret, xi, xo) := by
  have cp : (nI pc).toNatClampNeg = pc := nI_clamp (by omega)
  unfold wpX_executeOne
  refine ⟨vp_in_nI hpc (by omega), nm_r (e' := (0 : Int32)) (by rw [cp]; exact hop) ⟨vp_in_nI hpc (by omega), nm_r (e' := args pc) (by rw [cp]) ?_⟩⟩
  refine sx_hin (o := 0) _ (by decide) hb (fun k ek => ?_)
  rw [hh] at ek
  subst ek
  refine br_t rfl (br_t rfl ?_)
  exact h
theorem sy_o0 (post : Int32 → SY → Prop) (hpc : pc < 24) (hS2 : S ≤ 32)  (h : post 2 (nI P, nI S, nI R, nI Q, nI sz, nI d, nI rc, nI ci, nI co, nI st, nI pc, ops, args, stk, ret, yi, yo)) : wY_step_138 post 0 0 (nI P) (nI S) (nI R) (nI Q) (nI sz) (nI d) (nI rc) (nI ci) (nI co) (nI st) (nI pc) ops args stk ret yi yo := by
  unfold wY_step_138
  refine ⟨vp_in_nI hpc (by omega), ?_⟩
  rw [nI_clamp (n := pc) (by omega)]
  refine sy_eff0 _ ?_
  unfold wY_effect_72
  refine nm_r (nI_1 pc) (br_f (by decide) (br_f (by decide) (br_t rfl ?_)))
  exact br_t rfl h
theorem sx_o15 (post : Int32 → SX → Prop) (hpc : pc < 24) (hop : ops pc = nI 15) (hb : S ≤ 32 ∧ R ≤ 8 ∧ Q ≤ 8 ∧ d ≤ S ∧ rc ≤ R ∧ ci + 1 ≤ Q ∧ co ≤ Q) (hh : sc_hin 15 (d) S (rc) R (ci + 1) co Q = 1) (hf : fi < 8) (hS : d + 1 ≤ S) (h : post 1 (nI P, nI S, nI R, nI Q, nI st, nI (pc + 1), nI sz, nI (d + 1), nI rc, nI ((fi + 1) % 8), nI ci, nI fo, nI co, ops, args, upd stk d (xi fi), ret, xi, xo)) : wpX_executeOne post (nI P, nI S, nI R, nI Q, nI st, nI pc, nI sz, nI d, nI rc, nI fi, nI (ci + 1), nI fo, nI co, ops, args, stk, ret, xi, xo) := by
  have cp : (nI pc).toNatClampNeg = pc := nI_clamp (by omega)
  unfold wpX_executeOne
  refine ⟨vp_in_nI hpc (by omega), nm_r (e' := (15 : Int32)) (by rw [cp]; exact hop) ⟨vp_in_nI hpc (by omega), nm_r (e' := args pc) (by rw [cp]) ?_⟩⟩
  refine sx_hin (o := 15) _ (by decide) hb (fun k ek => ?_)
  rw [hh] at ek
  subst ek
  refine br_t rfl (br_f (by decide) (br_t (by decide) (br_f (by decide) ?_)))
  unfold wpX_moveThroughQueue
  refine br_t rfl ⟨vp_in_nI hf (by omega), nm_r (e' := xi fi) (by rw [nI_clamp (by omega)]) ?_⟩
  refine sx_ring (b := 1) _ (by omega) ?_
  refine nm_r (nI_pred ci) ?_
  refine sx_push (d := d) _ (by omega) ?_
  unfold wX_executeOne_110
  exact nm_r (nI_1 pc) h
theorem sy_o15 (post : Int32 → SY → Prop) (hpc : pc < 24) (hS2 : S ≤ 32) (hS : d + 1 ≤ S) (hc : ci + 1 ≤ 8) (h : post 1 (nI P, nI S, nI R, nI Q, nI sz, nI (d + 1), nI rc, nI ci, nI co, nI st, nI (pc + 1), ops, args, upd stk d (yi 0), ret, sc_sh yi ci, yo)) : wY_step_138 post 15 0 (nI P) (nI S) (nI R) (nI Q) (nI sz) (nI d) (nI rc) (nI (ci + 1)) (nI co) (nI st) (nI pc) ops args stk ret yi yo := by
  unfold wY_step_138
  refine ⟨vp_in_nI hpc (by omega), ?_⟩
  rw [nI_clamp (n := pc) (by omega)]
  refine sy_eff0 _ ?_
  unfold wY_effect_72
  refine nm_r (nI_1 pc) (br_f (by decide) (br_f (by decide) (br_f (by decide) (br_f (by decide) (br_f (by decide) (br_f (by decide) (br_f (by decide) (br_f (by decide) (br_f (by decide) (br_f (by decide) (br_f (by decide) (br_f (by decide) (br_f (by decide) (br_f (by decide) (br_f (by decide) (br_f (by decide) (br_f (by decide) (br_t rfl ?_))))))))))))))))))
  refine sy_push (d := d) _ (by omega) hS2 ?_
  exact ⟨ci + 1, sc_sh_0 yi ▸ sy_sh _ _ yi hc (br_f (by decide) h) ci 0 (by omega)⟩
theorem sx_o16 (post : Int32 → SX → Prop) (hpc : pc < 24) (hop : ops pc = nI 16) (hb : S ≤ 32 ∧ R ≤ 8 ∧ Q ≤ 8 ∧ d + 1 ≤ S ∧ rc ≤ R ∧ ci ≤ Q ∧ co ≤ Q) (hh : sc_hin 16 (d + 1) S (rc) R (ci) co Q = 1) (hf : fo < 8) (h : post 1 (nI P, nI S, nI R, nI Q, nI st, nI (pc + 1), nI sz, nI d, nI rc, nI fi, nI ci, nI fo, nI (co + 1), ops, args, stk, ret, xi, upd xo ((fo + co) % 8) (stk d))) : wpX_executeOne post (nI P, nI S, nI R, nI Q, nI st, nI pc, nI sz, nI (d + 1), nI rc, nI fi, nI ci, nI fo, nI co, ops, args, stk, ret, xi, xo) := by
  have cp : (nI pc).toNatClampNeg = pc := nI_clamp (by omega)
  unfold wpX_executeOne
  refine ⟨vp_in_nI hpc (by omega), nm_r (e' := (16 : Int32)) (by rw [cp]; exact hop) ⟨vp_in_nI hpc (by omega), nm_r (e' := args pc) (by rw [cp]) ?_⟩⟩
  refine sx_hin (o := 16) _ (by decide) hb (fun k ek => ?_)
  rw [hh] at ek
  subst ek
  refine br_t rfl (br_f (by decide) (br_t (by decide) (br_f (by decide) ?_)))
  unfold wpX_moveThroughQueue
  refine br_f (by decide) ?_
  refine sx_ring _ (by omega) ?_
  refine sx_pop (d := d) _ (by omega) ?_
  refine ⟨vp_in_nI (Nat.mod_lt _ (by decide)) (by omega), nm_r (e' := upd xo ((fo + co) % 8) (stk d)) (by rw [nI_clamp (by omega)]) (nm_r (nI_1 co) ?_)⟩
  unfold wX_executeOne_110
  exact nm_r (nI_1 pc) h
theorem sy_o16 (post : Int32 → SY → Prop) (hpc : pc < 24) (hS2 : S ≤ 32) (hD : d + 1 ≤ S) (hc : co < 8) (h : post 1 (nI P, nI S, nI R, nI Q, nI sz, nI d, nI rc, nI ci, nI (co + 1), nI st, nI (pc + 1), ops, args, stk, ret, yi, upd yo co (stk d))) : wY_step_138 post 16 1 (nI P) (nI S) (nI R) (nI Q) (nI sz) (nI (d + 1)) (nI rc) (nI ci) (nI co) (nI st) (nI pc) ops args stk ret yi yo := by
  unfold wY_step_138
  refine ⟨vp_in_nI hpc (by omega), ?_⟩
  rw [nI_clamp (n := pc) (by omega)]
  refine sy_eff1 _ (by omega) ?_
  unfold wY_effect_72
  refine nm_r (nI_1 pc) (br_f (by decide) (br_f (by decide) (br_f (by decide) (br_f (by decide) (br_f (by decide) (br_f (by decide) (br_f (by decide) (br_f (by decide) (br_f (by decide) (br_f (by decide) (br_f (by decide) (br_f (by decide) (br_f (by decide) (br_f (by decide) (br_f (by decide) (br_f (by decide) (br_f (by decide) (br_f (by decide) (br_t rfl ?_)))))))))))))))))))
  exact ⟨vp_in_nI hc (by omega), nm_r (e' := upd yo co (stk d)) (by rw [nI_clamp (by omega)]) (nm_r (nI_1 co) (br_f (by decide) h))⟩
theorem sx_o17 (post : Int32 → SX → Prop) (hpc : pc < 24) (hop : ops pc = nI 17) (hb : S ≤ 32 ∧ R ≤ 8 ∧ Q ≤ 8 ∧ d ≤ S ∧ rc ≤ R ∧ ci ≤ Q ∧ co ≤ Q) (hh : sc_hin 17 (d) S (rc) R (ci) co Q = 1)  (h : post 1 (nI P, nI S, nI R, nI Q, nI st, args pc, nI sz, nI d, nI rc, nI fi, nI ci, nI fo, nI co, ops, args, stk, ret, xi, xo)) : wpX_executeOne post (nI P, nI S, nI R, nI Q, nI st, nI pc, nI sz, nI d, nI rc, nI fi, nI ci, nI fo, nI co, ops, args, stk, ret, xi, xo) := by
  have cp : (nI pc).toNatClampNeg = pc := nI_clamp (by omega)
  unfold wpX_executeOne
  refine ⟨vp_in_nI hpc (by omega), nm_r (e' := (17 : Int32)) (by rw [cp]; exact hop) ⟨vp_in_nI hpc (by omega), nm_r (e' := args pc) (by rw [cp]) ?_⟩⟩
  refine sx_hin (o := 17) _ (by decide) hb (fun k ek => ?_)
  rw [hh] at ek
  subst ek
  refine br_t rfl (br_f (by decide) (br_f (by decide) ?_))
  unfold wpX_branch
  refine br_t (by decide) ?_
  exact h
theorem sy_o17 (post : Int32 → SY → Prop) (hpc : pc < 24) (hS2 : S ≤ 32)  (h : post 1 (nI P, nI S, nI R, nI Q, nI sz, nI d, nI rc, nI ci, nI co, nI st, args pc, ops, args, stk, ret, yi, yo)) : wY_step_138 post 17 0 (nI P) (nI S) (nI R) (nI Q) (nI sz) (nI d) (nI rc) (nI ci) (nI co) (nI st) (nI pc) ops args stk ret yi yo := by
  unfold wY_step_138
  refine ⟨vp_in_nI hpc (by omega), ?_⟩
  rw [nI_clamp (n := pc) (by omega)]
  refine sy_eff0 _ ?_
  unfold wY_effect_72
  refine nm_r (nI_1 pc) (br_f (by decide) (br_f (by decide) (br_f (by decide) (br_f (by decide) (br_f (by decide) (br_f (by decide) (br_f (by decide) (br_f (by decide) (br_f (by decide) (br_f (by decide) (br_f (by decide) (br_f (by decide) (br_f (by decide) (br_f (by decide) (br_f (by decide) (br_f (by decide) (br_f (by decide) (br_f (by decide) (br_f (by decide) (br_t rfl ?_))))))))))))))))))))
  exact br_f (by decide) h
theorem sx_o18z (post : Int32 → SX → Prop) (hpc : pc < 24) (hop : ops pc = nI 18) (hb : S ≤ 32 ∧ R ≤ 8 ∧ Q ≤ 8 ∧ d + 1 ≤ S ∧ rc ≤ R ∧ ci ≤ Q ∧ co ≤ Q) (hh : sc_hin 18 (d + 1) S (rc) R (ci) co Q = 1) (hz : stk d = 0) (h : post 1 (nI P, nI S, nI R, nI Q, nI st, args pc, nI sz, nI d, nI rc, nI fi, nI ci, nI fo, nI co, ops, args, stk, ret, xi, xo)) : wpX_executeOne post (nI P, nI S, nI R, nI Q, nI st, nI pc, nI sz, nI (d + 1), nI rc, nI fi, nI ci, nI fo, nI co, ops, args, stk, ret, xi, xo) := by
  have cp : (nI pc).toNatClampNeg = pc := nI_clamp (by omega)
  unfold wpX_executeOne
  refine ⟨vp_in_nI hpc (by omega), nm_r (e' := (18 : Int32)) (by rw [cp]; exact hop) ⟨vp_in_nI hpc (by omega), nm_r (e' := args pc) (by rw [cp]) ?_⟩⟩
  refine sx_hin (o := 18) _ (by decide) hb (fun k ek => ?_)
  rw [hh] at ek
  subst ek
  refine br_t rfl (br_f (by decide) (br_f (by decide) ?_))
  unfold wpX_branch
  refine br_f (by decide) (br_f (by decide) (br_t rfl ?_))
  refine sx_pop (d := d) _ (by omega) ?_
  exact br_t hz h
theorem sy_o18z (post : Int32 → SY → Prop) (hpc : pc < 24) (hS2 : S ≤ 32) (hD : d + 1 ≤ S) (hz : stk d = 0) (h : post 1 (nI P, nI S, nI R, nI Q, nI sz, nI d, nI rc, nI ci, nI co, nI st, args pc, ops, args, stk, ret, yi, yo)) : wY_step_138 post 18 1 (nI P) (nI S) (nI R) (nI Q) (nI sz) (nI (d + 1)) (nI rc) (nI ci) (nI co) (nI st) (nI pc) ops args stk ret yi yo := by
  unfold wY_step_138
  refine ⟨vp_in_nI hpc (by omega), ?_⟩
  rw [nI_clamp (n := pc) (by omega)]
  refine sy_eff1 _ (by omega) ?_
  unfold wY_effect_72
  refine nm_r (nI_1 pc) (br_f (by decide) (br_f (by decide) (br_f (by decide) (br_f (by decide) (br_f (by decide) (br_f (by decide) (br_f (by decide) (br_f (by decide) (br_f (by decide) (br_f (by decide) (br_f (by decide) (br_f (by decide) (br_f (by decide) (br_f (by decide) (br_f (by decide) (br_f (by decide) (br_f (by decide) (br_f (by decide) (br_f (by decide) (br_f (by decide) (br_t rfl ?_)))))))))))))))))))))
  exact br_t hz (br_f (by decide) h)
theorem sx_o18n (post : Int32 → SX → Prop) (hpc : pc < 24) (hop : ops pc = nI 18) (hb : S ≤ 32 ∧ R ≤ 8 ∧ Q ≤ 8 ∧ d + 1 ≤ S ∧ rc ≤ R ∧ ci ≤ Q ∧ co ≤ Q) (hh : sc_hin 18 (d + 1) S (rc) R (ci) co Q = 1) (hz : ¬ stk d = 0) (h : post 1 (nI P, nI S, nI R, nI Q, nI st, nI (pc + 1), nI sz, nI d, nI rc, nI fi, nI ci, nI fo, nI co, ops, args, stk, ret, xi, xo)) : wpX_executeOne post (nI P, nI S, nI R, nI Q, nI st, nI pc, nI sz, nI (d + 1), nI rc, nI fi, nI ci, nI fo, nI co, ops, args, stk, ret, xi, xo) := by
  have cp : (nI pc).toNatClampNeg = pc := nI_clamp (by omega)
  unfold wpX_executeOne
  refine ⟨vp_in_nI hpc (by omega), nm_r (e' := (18 : Int32)) (by rw [cp]; exact hop) ⟨vp_in_nI hpc (by omega), nm_r (e' := args pc) (by rw [cp]) ?_⟩⟩
  refine sx_hin (o := 18) _ (by decide) hb (fun k ek => ?_)
  rw [hh] at ek
  subst ek
  refine br_t rfl (br_f (by decide) (br_f (by decide) ?_))
  unfold wpX_branch
  refine br_f (by decide) (br_f (by decide) (br_t rfl ?_))
  refine sx_pop (d := d) _ (by omega) ?_
  exact br_f hz (nm_r (nI_1 pc) h)
theorem sy_o18n (post : Int32 → SY → Prop) (hpc : pc < 24) (hS2 : S ≤ 32) (hD : d + 1 ≤ S) (hz : ¬ stk d = 0) (h : post 1 (nI P, nI S, nI R, nI Q, nI sz, nI d, nI rc, nI ci, nI co, nI st, nI (pc + 1), ops, args, stk, ret, yi, yo)) : wY_step_138 post 18 1 (nI P) (nI S) (nI R) (nI Q) (nI sz) (nI (d + 1)) (nI rc) (nI ci) (nI co) (nI st) (nI pc) ops args stk ret yi yo := by
  unfold wY_step_138
  refine ⟨vp_in_nI hpc (by omega), ?_⟩
  rw [nI_clamp (n := pc) (by omega)]
  refine sy_eff1 _ (by omega) ?_
  unfold wY_effect_72
  refine nm_r (nI_1 pc) (br_f (by decide) (br_f (by decide) (br_f (by decide) (br_f (by decide) (br_f (by decide) (br_f (by decide) (br_f (by decide) (br_f (by decide) (br_f (by decide) (br_f (by decide) (br_f (by decide) (br_f (by decide) (br_f (by decide) (br_f (by decide) (br_f (by decide) (br_f (by decide) (br_f (by decide) (br_f (by decide) (br_f (by decide) (br_f (by decide) (br_t rfl ?_)))))))))))))))))))))
  exact br_f hz (nm_r (nI_1 pc) (br_f (by decide) h))
theorem sx_o19 (post : Int32 → SX → Prop) (hpc : pc < 24) (hop : ops pc = nI 19) (hb : S ≤ 32 ∧ R ≤ 8 ∧ Q ≤ 8 ∧ d ≤ S ∧ rc ≤ R ∧ ci ≤ Q ∧ co ≤ Q) (hh : sc_hin 19 (d) S (rc) R (ci) co Q = 1) (hr : rc < 8) (h : post 1 (nI P, nI S, nI R, nI Q, nI st, args pc, nI sz, nI d, nI (rc + 1), nI fi, nI ci, nI fo, nI co, ops, args, stk, upd ret rc (nI (pc + 1)), xi, xo)) : wpX_executeOne post (nI P, nI S, nI R, nI Q, nI st, nI pc, nI sz, nI d, nI rc, nI fi, nI ci, nI fo, nI co, ops, args, stk, ret, xi, xo) := by
  have cp : (nI pc).toNatClampNeg = pc := nI_clamp (by omega)
  unfold wpX_executeOne
  refine ⟨vp_in_nI hpc (by omega), nm_r (e' := (19 : Int32)) (by rw [cp]; exact hop) ⟨vp_in_nI hpc (by omega), nm_r (e' := args pc) (by rw [cp]) ?_⟩⟩
  refine sx_hin (o := 19) _ (by decide) hb (fun k ek => ?_)
  rw [hh] at ek
  subst ek
  refine br_t rfl (br_f (by decide) (br_f (by decide) ?_))
  unfold wpX_branch
  refine br_f (by decide) (br_f (by decide) (br_f (by decide) (br_t rfl ?_)))
  exact ⟨vp_in_nI hr (by omega), nm_r (e' := upd ret rc (nI (pc + 1))) (by rw [nI_clamp (by omega), nI_1]) (nm_r (nI_1 rc) h)⟩
theorem sy_o19 (post : Int32 → SY → Prop) (hpc : pc < 24) (hS2 : S ≤ 32) (hr : rc < 8) (h : post 1 (nI P, nI S, nI R, nI Q, nI sz, nI d, nI (rc + 1), nI ci, nI co, nI st, args pc, ops, args, stk, upd ret rc (nI (pc + 1)), yi, yo)) : wY_step_138 post 19 0 (nI P) (nI S) (nI R) (nI Q) (nI sz) (nI d) (nI rc) (nI ci) (nI co) (nI st) (nI pc) ops args stk ret yi yo := by
  unfold wY_step_138
  refine ⟨vp_in_nI hpc (by omega), ?_⟩
  rw [nI_clamp (n := pc) (by omega)]
  refine sy_eff0 _ ?_
  unfold wY_effect_72
  refine nm_r (nI_1 pc) (br_f (by decide) (br_f (by decide) (br_f (by decide) (br_f (by decide) (br_f (by decide) (br_f (by decide) (br_f (by decide) (br_f (by decide) (br_f (by decide) (br_f (by decide) (br_f (by decide) (br_f (by decide) (br_f (by decide) (br_f (by decide) (br_f (by decide) (br_f (by decide) (br_f (by decide) (br_f (by decide) (br_f (by decide) (br_f (by decide) (br_f (by decide) (br_t rfl ?_))))))))))))))))))))))
  exact ⟨vp_in_nI hr (by omega), nm_r (e' := upd ret rc (nI (pc + 1))) (by rw [nI_clamp (by omega), nI_1]) (nm_r (nI_1 rc) (br_f (by decide) h))⟩
theorem sx_o20 (post : Int32 → SX → Prop) (hpc : pc < 24) (hop : ops pc = nI 20) (hb : S ≤ 32 ∧ R ≤ 8 ∧ Q ≤ 8 ∧ d ≤ S ∧ rc + 1 ≤ R ∧ ci ≤ Q ∧ co ≤ Q) (hh : sc_hin 20 (d) S (rc + 1) R (ci) co Q = 1) (hr : rc < 8) (h : post 1 (nI P, nI S, nI R, nI Q, nI st, ret rc, nI sz, nI d, nI rc, nI fi, nI ci, nI fo, nI co, ops, args, stk, ret, xi, xo)) : wpX_executeOne post (nI P, nI S, nI R, nI Q, nI st, nI pc, nI sz, nI d, nI (rc + 1), nI fi, nI ci, nI fo, nI co, ops, args, stk, ret, xi, xo) := by
  have cp : (nI pc).toNatClampNeg = pc := nI_clamp (by omega)
  unfold wpX_executeOne
  refine ⟨vp_in_nI hpc (by omega), nm_r (e' := (20 : Int32)) (by rw [cp]; exact hop) ⟨vp_in_nI hpc (by omega), nm_r (e' := args pc) (by rw [cp]) ?_⟩⟩
  refine sx_hin (o := 20) _ (by decide) hb (fun k ek => ?_)
  rw [hh] at ek
  subst ek
  refine br_t rfl (br_f (by decide) (br_f (by decide) ?_))
  unfold wpX_branch
  refine br_f (by decide) (br_f (by decide) (br_f (by decide) (br_f (by decide) (br_t rfl ?_))))
  exact nm_r (nI_pred rc) ⟨vp_in_nI hr (by omega), nm_r (e' := ret rc) (by rw [nI_clamp (by omega)]) h⟩
theorem sy_o20 (post : Int32 → SY → Prop) (hpc : pc < 24) (hS2 : S ≤ 32) (hr : rc < 8) (h : post 1 (nI P, nI S, nI R, nI Q, nI sz, nI d, nI rc, nI ci, nI co, nI st, ret rc, ops, args, stk, ret, yi, yo)) : wY_step_138 post 20 0 (nI P) (nI S) (nI R) (nI Q) (nI sz) (nI d) (nI (rc + 1)) (nI ci) (nI co) (nI st) (nI pc) ops args stk ret yi yo := by
  unfold wY_step_138
  refine ⟨vp_in_nI hpc (by omega), ?_⟩
  rw [nI_clamp (n := pc) (by omega)]
  refine sy_eff0 _ ?_
  unfold wY_effect_72
  refine nm_r (nI_1 pc) (br_f (by decide) (br_f (by decide) (br_f (by decide) (br_f (by decide) (br_f (by decide) (br_f (by decide) (br_f (by decide) (br_f (by decide) (br_f (by decide) (br_f (by decide) (br_f (by decide) (br_f (by decide) (br_f (by decide) (br_f (by decide) (br_f (by decide) (br_f (by decide) (br_f (by decide) (br_f (by decide) (br_f (by decide) (br_f (by decide) (br_f (by decide) (br_f (by decide) (br_t rfl ?_)))))))))))))))))))))))
  exact nm_r (nI_pred rc) ⟨vp_in_nI hr (by omega), nm_r (e' := ret rc) (by rw [nI_clamp (by omega)]) (br_f (by decide) h)⟩
theorem sx_flt (post : Int32 → SX → Prop) {o k : Nat} (ho : o ≤ 20) (hpc : pc < 24) (hop : ops pc = nI o) (hb : S ≤ 32 ∧ R ≤ 8 ∧ Q ≤ 8 ∧ d ≤ S ∧ rc ≤ R ∧ ci ≤ Q ∧ co ≤ Q) (hh : sc_hin o d S rc R ci co Q = k) (hk : 3 ≤ k ∧ k ≤ 6) (h : post (nI k) (nI P, nI S, nI R, nI Q, nI k, nI pc, nI sz, nI d, nI rc, nI fi, nI ci, nI fo, nI co, ops, args, stk, ret, xi, xo)) : wpX_executeOne post (nI P, nI S, nI R, nI Q, nI st, nI pc, nI sz, nI d, nI rc, nI fi, nI ci, nI fo, nI co, ops, args, stk, ret, xi, xo) := by
  have cp : (nI pc).toNatClampNeg = pc := nI_clamp (by omega)
  unfold wpX_executeOne
  refine ⟨vp_in_nI hpc (by omega), nm_r (e' := nI o) (by rw [cp]; exact hop) ⟨vp_in_nI hpc (by omega), nm_r (e' := args pc) (by rw [cp]) ?_⟩⟩
  refine sx_hin (o := o) _ ho hb (fun j ej => ?_)
  rw [hh] at ej
  subst ej
  exact pk_eq k 1 (fun c => absurd c (by omega)) (fun _ => pk_eq k 7 (fun c => absurd c (by omega)) (fun _ => pk_eq k 8 (fun c => absurd c (by omega)) (fun _ => h)))
theorem sx_wai (post : Int32 → SX → Prop) {o k : Nat} (ho : o ≤ 20) (hpc : pc < 24) (hop : ops pc = nI o) (hb : S ≤ 32 ∧ R ≤ 8 ∧ Q ≤ 8 ∧ d ≤ S ∧ rc ≤ R ∧ ci ≤ Q ∧ co ≤ Q) (hh : sc_hin o d S rc R ci co Q = k) (hk : k = 7 ∨ k = 8) (h : post (nI k) (nI P, nI S, nI R, nI Q, nI st, nI pc, nI sz, nI d, nI rc, nI fi, nI ci, nI fo, nI co, ops, args, stk, ret, xi, xo)) : wpX_executeOne post (nI P, nI S, nI R, nI Q, nI st, nI pc, nI sz, nI d, nI rc, nI fi, nI ci, nI fo, nI co, ops, args, stk, ret, xi, xo) := by
  have cp : (nI pc).toNatClampNeg = pc := nI_clamp (by omega)
  unfold wpX_executeOne
  refine ⟨vp_in_nI hpc (by omega), nm_r (e' := nI o) (by rw [cp]; exact hop) ⟨vp_in_nI hpc (by omega), nm_r (e' := args pc) (by rw [cp]) ?_⟩⟩
  refine sx_hin (o := o) _ ho hb (fun j ej => ?_)
  rw [hh] at ej
  subst ej
  exact pk_eq k 1 (fun c => absurd c (by omega)) (fun _ => pk_eq k 7 (fun _ => h) (fun _ => pk_eq k 8 (fun _ => h) (fun c => absurd hk (by omega))))
end SCO
end
section
section SCS
variable {P S R Q st pc sz d rc fi ci fo co : Nat} {ops args stk ret xi xo yi yo : Nat → Int32}
theorem sc_fin (o pc' d' rc' fi' ci' fo' co' : Nat) (stk' ret' xo' yi' yo' : Nat → Int32) (I : sc_I 1 pc P S R Q sz d rc fi ci fo co ops args ret xi xo yi yo) (ho : o ≤ 20) (hop : ops pc = nI o) (hh : sc_hin o d S rc R ci co Q = 1) (I' : sc_I 1 pc' P S R Q sz d' rc' fi' ci' fo' co' ops args ret' xi xo' yi' yo') (hx : ∀ post : Int32 → SX → Prop, post 1 (nI P, nI S, nI R, nI Q, nI 1, nI pc', nI sz, nI d', nI rc', nI fi', nI ci', nI fo', nI co', ops, args, stk', ret', xi, xo') → wpX_executeOne post (nI P, nI S, nI R, nI Q, nI 1, nI pc, nI sz, nI d, nI rc, nI fi, nI ci, nI fo, nI co, ops, args, stk, ret, xi, xo)) (hy : ∀ post : Int32 → SY → Prop, post 1 (nI P, nI S, nI R, nI Q, nI sz, nI d', nI rc', nI ci', nI co', nI 1, nI pc', ops, args, stk', ret', yi', yo') → wY_step_138 post (nI o) (nI (sc_nd o)) (nI P) (nI S) (nI R) (nI Q) (nI sz) (nI d) (nI rc) (nI ci) (nI co) (nI 1) (nI pc) ops args stk ret yi yo) : ∃ (r : Int32) (s : Nat) (u' : SX) (v' : SY), (∀ post : Int32 → SX → Prop, post r u' → wpX_executeOne post (nI P, nI S, nI R, nI Q, nI 1, nI pc, nI sz, nI d, nI rc, nI fi, nI ci, nI fo, nI co, ops, args, stk, ret, xi, xo)) ∧ (∀ post : Int32 → SY → Prop, post r v' → wpY_step post (nI P, nI S, nI R, nI Q, nI sz, nI d, nI rc, nI ci, nI co, nI 1, nI pc, ops, args, stk, ret, yi, yo)) ∧ sc_J s 1 u' v' ∧ ((r = nI s ∧ 1 ≤ s ∧ s ≤ 6) ∨ (s = 1 ∧ (r = 7 ∨ r = 8))) := by
  obtain ⟨hb, _, _, _, hr⟩ := I
  obtain ⟨hpc, _⟩ := hr rfl
  exact ⟨1, 1, _, _, hx, fun post h => sy_step post ho (by omega) (by omega) hpc hop (fun _ => hy post h) (fun k e1 e2 => absurd (e1.symm.trans hh) e2), ⟨pc', P, S, R, Q, sz, d', rc', fi', ci', fo', co', ops, args, stk', ret', xi, xo', yi', yo', rfl, rfl, I'⟩, Or.inl ⟨rfl, by decide, by decide⟩⟩
theorem sc_g1 (I : sc_I 1 pc P S R Q sz d rc fi ci fo co ops args ret xi xo yi yo) (hop : ops pc = nI 1) (hh : sc_hin 1 d S rc R ci co Q = 1) : ∃ (r : Int32) (s : Nat) (u' : SX) (v' : SY), (∀ post : Int32 → SX → Prop, post r u' → wpX_executeOne post (nI P, nI S, nI R, nI Q, nI 1, nI pc, nI sz, nI d, nI rc, nI fi, nI ci, nI fo, nI co, ops, args, stk, ret, xi, xo)) ∧ (∀ post : Int32 → SY → Prop, post r v' → wpY_step post (nI P, nI S, nI R, nI Q, nI sz, nI d, nI rc, nI ci, nI co, nI 1, nI pc, ops, args, stk, ret, yi, yo)) ∧ sc_J s 1 u' v' ∧ ((r = nI s ∧ 1 ≤ s ∧ s ≤ 6) ∨ (s = 1 ∧ (r = 7 ∨ r = 8))) := by
  have h1 := sc_hin_1 hh
  have e1 : sc_nd 1 = 0 := rfl
  have e2 : sc_gr 1 = 2 := rfl
  have I0 := I
  obtain ⟨hb, hRi, hRo, hO, hr⟩ := I0
  obtain ⟨hpc, hE, hT, hQ⟩ := hr rfl
  have hn := sc_nxt hE hpc hop (by decide) (by decide) (by decide) (by decide)
  obtain ⟨e, rfl⟩ : ∃ e, e = d := ⟨d, rfl⟩
  exact sc_fin 1 (pc + 1) (e + 1) rc fi ci fo co (upd stk e (args pc)) ret xo yi yo I (by decide) hop hh ⟨by omega, hRi, hRo, hO, fun _ => ⟨hn, hE, hT, hQ⟩⟩ (fun post h => sx_o1 post (by omega) hop (by omega) (by omega) hh h) (fun post h => sy_o1 post (by omega) (by omega) (by omega) (by omega) h)
theorem sc_g2 (I : sc_I 1 pc P S R Q sz d rc fi ci fo co ops args ret xi xo yi yo) (hop : ops pc = nI 2) (hh : sc_hin 2 d S rc R ci co Q = 1) : ∃ (r : Int32) (s : Nat) (u' : SX) (v' : SY), (∀ post : Int32 → SX → Prop, post r u' → wpX_executeOne post (nI P, nI S, nI R, nI Q, nI 1, nI pc, nI sz, nI d, nI rc, nI fi, nI ci, nI fo, nI co, ops, args, stk, ret, xi, xo)) ∧ (∀ post : Int32 → SY → Prop, post r v' → wpY_step post (nI P, nI S, nI R, nI Q, nI sz, nI d, nI rc, nI ci, nI co, nI 1, nI pc, ops, args, stk, ret, yi, yo)) ∧ sc_J s 1 u' v' ∧ ((r = nI s ∧ 1 ≤ s ∧ s ≤ 6) ∨ (s = 1 ∧ (r = 7 ∨ r = 8))) := by
  have h1 := sc_hin_1 hh
  have e1 : sc_nd 2 = 1 := rfl
  have e2 : sc_gr 2 = 2 := rfl
  have I0 := I
  obtain ⟨hb, hRi, hRo, hO, hr⟩ := I0
  obtain ⟨hpc, hE, hT, hQ⟩ := hr rfl
  have hn := sc_nxt hE hpc hop (by decide) (by decide) (by decide) (by decide)
  obtain ⟨e, rfl⟩ : ∃ e, d = e + 1 := ⟨d - 1, by omega⟩
  exact sc_fin 2 (pc + 1) (e + 2) rc fi ci fo co (upd stk (e + 1) (stk e)) ret xo yi yo I (by decide) hop hh ⟨by omega, hRi, hRo, hO, fun _ => ⟨hn, hE, hT, hQ⟩⟩ (fun post h => sx_o2 post (by omega) hop (by omega) (by omega) hh h) (fun post h => sy_o2 post (by omega) (by omega) (by omega) (by omega) (by rw [sc_uid]; exact h))
theorem sc_g3 (I : sc_I 1 pc P S R Q sz d rc fi ci fo co ops args ret xi xo yi yo) (hop : ops pc = nI 3) (hh : sc_hin 3 d S rc R ci co Q = 1) : ∃ (r : Int32) (s : Nat) (u' : SX) (v' : SY), (∀ post : Int32 → SX → Prop, post r u' → wpX_executeOne post (nI P, nI S, nI R, nI Q, nI 1, nI pc, nI sz, nI d, nI rc, nI fi, nI ci, nI fo, nI co, ops, args, stk, ret, xi, xo)) ∧ (∀ post : Int32 → SY → Prop, post r v' → wpY_step post (nI P, nI S, nI R, nI Q, nI sz, nI d, nI rc, nI ci, nI co, nI 1, nI pc, ops, args, stk, ret, yi, yo)) ∧ sc_J s 1 u' v' ∧ ((r = nI s ∧ 1 ≤ s ∧ s ≤ 6) ∨ (s = 1 ∧ (r = 7 ∨ r = 8))) := by
  have h1 := sc_hin_1 hh
  have e1 : sc_nd 3 = 1 := rfl
  have e2 : sc_gr 3 = 0 := rfl
  have I0 := I
  obtain ⟨hb, hRi, hRo, hO, hr⟩ := I0
  obtain ⟨hpc, hE, hT, hQ⟩ := hr rfl
  have hn := sc_nxt hE hpc hop (by decide) (by decide) (by decide) (by decide)
  obtain ⟨e, rfl⟩ : ∃ e, d = e + 1 := ⟨d - 1, by omega⟩
  exact sc_fin 3 (pc + 1) e rc fi ci fo co (stk) ret xo yi yo I (by decide) hop hh ⟨by omega, hRi, hRo, hO, fun _ => ⟨hn, hE, hT, hQ⟩⟩ (fun post h => sx_o3 post (by omega) hop (by omega) (by omega) hh h) (fun post h => sy_o3 post (by omega) (by omega) (by omega) (by omega) h)
theorem sc_g4 (I : sc_I 1 pc P S R Q sz d rc fi ci fo co ops args ret xi xo yi yo) (hop : ops pc = nI 4) (hh : sc_hin 4 d S rc R ci co Q = 1) : ∃ (r : Int32) (s : Nat) (u' : SX) (v' : SY), (∀ post : Int32 → SX → Prop, post r u' → wpX_executeOne post (nI P, nI S, nI R, nI Q, nI 1, nI pc, nI sz, nI d, nI rc, nI fi, nI ci, nI fo, nI co, ops, args, stk, ret, xi, xo)) ∧ (∀ post : Int32 → SY → Prop, post r v' → wpY_step post (nI P, nI S, nI R, nI Q, nI sz, nI d, nI rc, nI ci, nI co, nI 1, nI pc, ops, args, stk, ret, yi, yo)) ∧ sc_J s 1 u' v' ∧ ((r = nI s ∧ 1 ≤ s ∧ s ≤ 6) ∨ (s = 1 ∧ (r = 7 ∨ r = 8))) := by
  have h1 := sc_hin_1 hh
  have e1 : sc_nd 4 = 2 := rfl
  have e2 : sc_gr 4 = 1 := rfl
  have I0 := I
  obtain ⟨hb, hRi, hRo, hO, hr⟩ := I0
  obtain ⟨hpc, hE, hT, hQ⟩ := hr rfl
  have hn := sc_nxt hE hpc hop (by decide) (by decide) (by decide) (by decide)
  obtain ⟨e, rfl⟩ : ∃ e, d = e + 2 := ⟨d - 2, by omega⟩
  exact sc_fin 4 (pc + 1) (e + 2) rc fi ci fo co (upd (upd stk e (stk (e + 1))) (e + 1) (stk e)) ret xo yi yo I (by decide) hop hh ⟨by omega, hRi, hRo, hO, fun _ => ⟨hn, hE, hT, hQ⟩⟩ (fun post h => sx_o4 post (by omega) hop (by omega) (by omega) hh h) (fun post h => sy_o4 post (by omega) (by omega) (by omega) (by omega) h)
theorem sc_g5 (I : sc_I 1 pc P S R Q sz d rc fi ci fo co ops args ret xi xo yi yo) (hop : ops pc = nI 5) (hh : sc_hin 5 d S rc R ci co Q = 1) : ∃ (r : Int32) (s : Nat) (u' : SX) (v' : SY), (∀ post : Int32 → SX → Prop, post r u' → wpX_executeOne post (nI P, nI S, nI R, nI Q, nI 1, nI pc, nI sz, nI d, nI rc, nI fi, nI ci, nI fo, nI co, ops, args, stk, ret, xi, xo)) ∧ (∀ post : Int32 → SY → Prop, post r v' → wpY_step post (nI P, nI S, nI R, nI Q, nI sz, nI d, nI rc, nI ci, nI co, nI 1, nI pc, ops, args, stk, ret, yi, yo)) ∧ sc_J s 1 u' v' ∧ ((r = nI s ∧ 1 ≤ s ∧ s ≤ 6) ∨ (s = 1 ∧ (r = 7 ∨ r = 8))) := by
  have h1 := sc_hin_1 hh
  have e1 : sc_nd 5 = 2 := rfl
  have e2 : sc_gr 5 = 2 := rfl
  have I0 := I
  obtain ⟨hb, hRi, hRo, hO, hr⟩ := I0
  obtain ⟨hpc, hE, hT, hQ⟩ := hr rfl
  have hn := sc_nxt hE hpc hop (by decide) (by decide) (by decide) (by decide)
  obtain ⟨e, rfl⟩ : ∃ e, d = e + 2 := ⟨d - 2, by omega⟩
  exact sc_fin 5 (pc + 1) (e + 3) rc fi ci fo co (upd (upd (upd stk e (stk e)) (e + 1) (stk (e + 1))) (e + 2) (stk e)) ret xo yi yo I (by decide) hop hh ⟨by omega, hRi, hRo, hO, fun _ => ⟨hn, hE, hT, hQ⟩⟩ (fun post h => sx_o5 post (by omega) hop (by omega) (by omega) hh h) (fun post h => sy_o5 post (by omega) (by omega) (by omega) (by omega) h)
theorem sc_g6 (I : sc_I 1 pc P S R Q sz d rc fi ci fo co ops args ret xi xo yi yo) (hop : ops pc = nI 6) (hh : sc_hin 6 d S rc R ci co Q = 1) : ∃ (r : Int32) (s : Nat) (u' : SX) (v' : SY), (∀ post : Int32 → SX → Prop, post r u' → wpX_executeOne post (nI P, nI S, nI R, nI Q, nI 1, nI pc, nI sz, nI d, nI rc, nI fi, nI ci, nI fo, nI co, ops, args, stk, ret, xi, xo)) ∧ (∀ post : Int32 → SY → Prop, post r v' → wpY_step post (nI P, nI S, nI R, nI Q, nI sz, nI d, nI rc, nI ci, nI co, nI 1, nI pc, ops, args, stk, ret, yi, yo)) ∧ sc_J s 1 u' v' ∧ ((r = nI s ∧ 1 ≤ s ∧ s ≤ 6) ∨ (s = 1 ∧ (r = 7 ∨ r = 8))) := by
  have h1 := sc_hin_1 hh
  have e1 : sc_nd 6 = 3 := rfl
  have e2 : sc_gr 6 = 1 := rfl
  have I0 := I
  obtain ⟨hb, hRi, hRo, hO, hr⟩ := I0
  obtain ⟨hpc, hE, hT, hQ⟩ := hr rfl
  have hn := sc_nxt hE hpc hop (by decide) (by decide) (by decide) (by decide)
  obtain ⟨e, rfl⟩ : ∃ e, d = e + 3 := ⟨d - 3, by omega⟩
  exact sc_fin 6 (pc + 1) (e + 3) rc fi ci fo co (upd (upd (upd stk e (stk (e + 1))) (e + 1) (stk (e + 2))) (e + 2) (stk e)) ret xo yi yo I (by decide) hop hh ⟨by omega, hRi, hRo, hO, fun _ => ⟨hn, hE, hT, hQ⟩⟩ (fun post h => sx_o6 post (by omega) hop (by omega) (by omega) hh h) (fun post h => sy_o6 post (by omega) (by omega) (by omega) (by omega) h)
theorem sc_g7 (I : sc_I 1 pc P S R Q sz d rc fi ci fo co ops args ret xi xo yi yo) (hop : ops pc = nI 7) (hh : sc_hin 7 d S rc R ci co Q = 1) : ∃ (r : Int32) (s : Nat) (u' : SX) (v' : SY), (∀ post : Int32 → SX → Prop, post r u' → wpX_executeOne post (nI P, nI S, nI R, nI Q, nI 1, nI pc, nI sz, nI d, nI rc, nI fi, nI ci, nI fo, nI co, ops, args, stk, ret, xi, xo)) ∧ (∀ post : Int32 → SY → Prop, post r v' → wpY_step post (nI P, nI S, nI R, nI Q, nI sz, nI d, nI rc, nI ci, nI co, nI 1, nI pc, ops, args, stk, ret, yi, yo)) ∧ sc_J s 1 u' v' ∧ ((r = nI s ∧ 1 ≤ s ∧ s ≤ 6) ∨ (s = 1 ∧ (r = 7 ∨ r = 8))) := by
  have h1 := sc_hin_1 hh
  have e1 : sc_nd 7 = 2 := rfl
  have e2 : sc_gr 7 = 0 := rfl
  have I0 := I
  obtain ⟨hb, hRi, hRo, hO, hr⟩ := I0
  obtain ⟨hpc, hE, hT, hQ⟩ := hr rfl
  have hn := sc_nxt hE hpc hop (by decide) (by decide) (by decide) (by decide)
  obtain ⟨e, rfl⟩ : ∃ e, d = e + 2 := ⟨d - 2, by omega⟩
  exact sc_fin 7 (pc + 1) (e + 1) rc fi ci fo co (upd stk e (stk (e + 1))) ret xo yi yo I (by decide) hop hh ⟨by omega, hRi, hRo, hO, fun _ => ⟨hn, hE, hT, hQ⟩⟩ (fun post h => sx_o7 post (by omega) hop (by omega) (by omega) hh h) (fun post h => sy_o7 post (by omega) (by omega) (by omega) (by omega) h)
theorem sc_g8 (I : sc_I 1 pc P S R Q sz d rc fi ci fo co ops args ret xi xo yi yo) (hop : ops pc = nI 8) (hh : sc_hin 8 d S rc R ci co Q = 1) : ∃ (r : Int32) (s : Nat) (u' : SX) (v' : SY), (∀ post : Int32 → SX → Prop, post r u' → wpX_executeOne post (nI P, nI S, nI R, nI Q, nI 1, nI pc, nI sz, nI d, nI rc, nI fi, nI ci, nI fo, nI co, ops, args, stk, ret, xi, xo)) ∧ (∀ post : Int32 → SY → Prop, post r v' → wpY_step post (nI P, nI S, nI R, nI Q, nI sz, nI d, nI rc, nI ci, nI co, nI 1, nI pc, ops, args, stk, ret, yi, yo)) ∧ sc_J s 1 u' v' ∧ ((r = nI s ∧ 1 ≤ s ∧ s ≤ 6) ∨ (s = 1 ∧ (r = 7 ∨ r = 8))) := by
  have h1 := sc_hin_1 hh
  have e1 : sc_nd 8 = 2 := rfl
  have e2 : sc_gr 8 = 2 := rfl
  have I0 := I
  obtain ⟨hb, hRi, hRo, hO, hr⟩ := I0
  obtain ⟨hpc, hE, hT, hQ⟩ := hr rfl
  have hn := sc_nxt hE hpc hop (by decide) (by decide) (by decide) (by decide)
  obtain ⟨e, rfl⟩ : ∃ e, d = e + 2 := ⟨d - 2, by omega⟩
  exact sc_fin 8 (pc + 1) (e + 3) rc fi ci fo co (upd (upd (upd stk e (stk (e + 1))) (e + 1) (stk e)) (e + 2) (stk (e + 1))) ret xo yi yo I (by decide) hop hh ⟨by omega, hRi, hRo, hO, fun _ => ⟨hn, hE, hT, hQ⟩⟩ (fun post h => sx_o8 post (by omega) hop (by omega) (by omega) hh h) (fun post h => sy_o8 post (by omega) (by omega) (by omega) (by omega) h)
theorem sc_g9 (I : sc_I 1 pc P S R Q sz d rc fi ci fo co ops args ret xi xo yi yo) (hop : ops pc = nI 9) (hh : sc_hin 9 d S rc R ci co Q = 1) : ∃ (r : Int32) (s : Nat) (u' : SX) (v' : SY), (∀ post : Int32 → SX → Prop, post r u' → wpX_executeOne post (nI P, nI S, nI R, nI Q, nI 1, nI pc, nI sz, nI d, nI rc, nI fi, nI ci, nI fo, nI co, ops, args, stk, ret, xi, xo)) ∧ (∀ post : Int32 → SY → Prop, post r v' → wpY_step post (nI P, nI S, nI R, nI Q, nI sz, nI d, nI rc, nI ci, nI co, nI 1, nI pc, ops, args, stk, ret, yi, yo)) ∧ sc_J s 1 u' v' ∧ ((r = nI s ∧ 1 ≤ s ∧ s ≤ 6) ∨ (s = 1 ∧ (r = 7 ∨ r = 8))) := by
  have h1 := sc_hin_1 hh
  have e1 : sc_nd 9 = 1 := rfl
  have e2 : sc_gr 9 = 1 := rfl
  have I0 := I
  obtain ⟨hb, hRi, hRo, hO, hr⟩ := I0
  obtain ⟨hpc, hE, hT, hQ⟩ := hr rfl
  have hn := sc_nxt hE hpc hop (by decide) (by decide) (by decide) (by decide)
  obtain ⟨e, rfl⟩ : ∃ e, d = e + 1 := ⟨d - 1, by omega⟩
  exact sc_fin 9 (pc + 1) (e + 1) rc fi ci fo co (upd stk e (stk e + args pc)) ret xo yi yo I (by decide) hop hh ⟨by omega, hRi, hRo, hO, fun _ => ⟨hn, hE, hT, hQ⟩⟩ (fun post h => sx_o9 post (by omega) hop (by omega) (by omega) hh h) (fun post h => sy_o9 post (by omega) (by omega) (by omega) (by omega) h)
theorem sc_g10 (I : sc_I 1 pc P S R Q sz d rc fi ci fo co ops args ret xi xo yi yo) (hop : ops pc = nI 10) (hh : sc_hin 10 d S rc R ci co Q = 1) : ∃ (r : Int32) (s : Nat) (u' : SX) (v' : SY), (∀ post : Int32 → SX → Prop, post r u' → wpX_executeOne post (nI P, nI S, nI R, nI Q, nI 1, nI pc, nI sz, nI d, nI rc, nI fi, nI ci, nI fo, nI co, ops, args, stk, ret, xi, xo)) ∧ (∀ post : Int32 → SY → Prop, post r v' → wpY_step post (nI P, nI S, nI R, nI Q, nI sz, nI d, nI rc, nI ci, nI co, nI 1, nI pc, ops, args, stk, ret, yi, yo)) ∧ sc_J s 1 u' v' ∧ ((r = nI s ∧ 1 ≤ s ∧ s ≤ 6) ∨ (s = 1 ∧ (r = 7 ∨ r = 8))) := by
  have h1 := sc_hin_1 hh
  have e1 : sc_nd 10 = 2 := rfl
  have e2 : sc_gr 10 = 0 := rfl
  have I0 := I
  obtain ⟨hb, hRi, hRo, hO, hr⟩ := I0
  obtain ⟨hpc, hE, hT, hQ⟩ := hr rfl
  have hn := sc_nxt hE hpc hop (by decide) (by decide) (by decide) (by decide)
  obtain ⟨e, rfl⟩ : ∃ e, d = e + 2 := ⟨d - 2, by omega⟩
  exact sc_fin 10 (pc + 1) (e + 1) rc fi ci fo co (upd stk e ((stk e) + (stk (e + 1)))) ret xo yi yo I (by decide) hop hh ⟨by omega, hRi, hRo, hO, fun _ => ⟨hn, hE, hT, hQ⟩⟩ (fun post h => sx_o10 post (by omega) hop (by omega) (by omega) hh h) (fun post h => sy_o10 post (by omega) (by omega) (by omega) (by omega) h)
theorem sc_g11 (I : sc_I 1 pc P S R Q sz d rc fi ci fo co ops args ret xi xo yi yo) (hop : ops pc = nI 11) (hh : sc_hin 11 d S rc R ci co Q = 1) : ∃ (r : Int32) (s : Nat) (u' : SX) (v' : SY), (∀ post : Int32 → SX → Prop, post r u' → wpX_executeOne post (nI P, nI S, nI R, nI Q, nI 1, nI pc, nI sz, nI d, nI rc, nI fi, nI ci, nI fo, nI co, ops, args, stk, ret, xi, xo)) ∧ (∀ post : Int32 → SY → Prop, post r v' → wpY_step post (nI P, nI S, nI R, nI Q, nI sz, nI d, nI rc, nI ci, nI co, nI 1, nI pc, ops, args, stk, ret, yi, yo)) ∧ sc_J s 1 u' v' ∧ ((r = nI s ∧ 1 ≤ s ∧ s ≤ 6) ∨ (s = 1 ∧ (r = 7 ∨ r = 8))) := by
  have h1 := sc_hin_1 hh
  have e1 : sc_nd 11 = 2 := rfl
  have e2 : sc_gr 11 = 0 := rfl
  have I0 := I
  obtain ⟨hb, hRi, hRo, hO, hr⟩ := I0
  obtain ⟨hpc, hE, hT, hQ⟩ := hr rfl
  have hn := sc_nxt hE hpc hop (by decide) (by decide) (by decide) (by decide)
  obtain ⟨e, rfl⟩ : ∃ e, d = e + 2 := ⟨d - 2, by omega⟩
  exact sc_fin 11 (pc + 1) (e + 1) rc fi ci fo co (upd stk e ((stk e) - (stk (e + 1)))) ret xo yi yo I (by decide) hop hh ⟨by omega, hRi, hRo, hO, fun _ => ⟨hn, hE, hT, hQ⟩⟩ (fun post h => sx_o11 post (by omega) hop (by omega) (by omega) hh h) (fun post h => sy_o11 post (by omega) (by omega) (by omega) (by omega) h)
theorem sc_g12 (I : sc_I 1 pc P S R Q sz d rc fi ci fo co ops args ret xi xo yi yo) (hop : ops pc = nI 12) (hh : sc_hin 12 d S rc R ci co Q = 1) : ∃ (r : Int32) (s : Nat) (u' : SX) (v' : SY), (∀ post : Int32 → SX → Prop, post r u' → wpX_executeOne post (nI P, nI S, nI R, nI Q, nI 1, nI pc, nI sz, nI d, nI rc, nI fi, nI ci, nI fo, nI co, ops, args, stk, ret, xi, xo)) ∧ (∀ post : Int32 → SY → Prop, post r v' → wpY_step post (nI P, nI S, nI R, nI Q, nI sz, nI d, nI rc, nI ci, nI co, nI 1, nI pc, ops, args, stk, ret, yi, yo)) ∧ sc_J s 1 u' v' ∧ ((r = nI s ∧ 1 ≤ s ∧ s ≤ 6) ∨ (s = 1 ∧ (r = 7 ∨ r = 8))) := by
  have h1 := sc_hin_1 hh
  have e1 : sc_nd 12 = 2 := rfl
  have e2 : sc_gr 12 = 0 := rfl
  have I0 := I
  obtain ⟨hb, hRi, hRo, hO, hr⟩ := I0
  obtain ⟨hpc, hE, hT, hQ⟩ := hr rfl
  have hn := sc_nxt hE hpc hop (by decide) (by decide) (by decide) (by decide)
  obtain ⟨e, rfl⟩ : ∃ e, d = e + 2 := ⟨d - 2, by omega⟩
  exact sc_fin 12 (pc + 1) (e + 1) rc fi ci fo co (upd stk e ((stk e) * (stk (e + 1)))) ret xo yi yo I (by decide) hop hh ⟨by omega, hRi, hRo, hO, fun _ => ⟨hn, hE, hT, hQ⟩⟩ (fun post h => sx_o12 post (by omega) hop (by omega) (by omega) hh h) (fun post h => sy_o12 post (by omega) (by omega) (by omega) (by omega) h)
theorem sc_g13 (I : sc_I 1 pc P S R Q sz d rc fi ci fo co ops args ret xi xo yi yo) (hop : ops pc = nI 13) (hh : sc_hin 13 d S rc R ci co Q = 1) : ∃ (r : Int32) (s : Nat) (u' : SX) (v' : SY), (∀ post : Int32 → SX → Prop, post r u' → wpX_executeOne post (nI P, nI S, nI R, nI Q, nI 1, nI pc, nI sz, nI d, nI rc, nI fi, nI ci, nI fo, nI co, ops, args, stk, ret, xi, xo)) ∧ (∀ post : Int32 → SY → Prop, post r v' → wpY_step post (nI P, nI S, nI R, nI Q, nI sz, nI d, nI rc, nI ci, nI co, nI 1, nI pc, ops, args, stk, ret, yi, yo)) ∧ sc_J s 1 u' v' ∧ ((r = nI s ∧ 1 ≤ s ∧ s ≤ 6) ∨ (s = 1 ∧ (r = 7 ∨ r = 8))) := by
  have h1 := sc_hin_1 hh
  have e1 : sc_nd 13 = 2 := rfl
  have e2 : sc_gr 13 = 0 := rfl
  have I0 := I
  obtain ⟨hb, hRi, hRo, hO, hr⟩ := I0
  obtain ⟨hpc, hE, hT, hQ⟩ := hr rfl
  have hn := sc_nxt hE hpc hop (by decide) (by decide) (by decide) (by decide)
  obtain ⟨e, rfl⟩ : ∃ e, d = e + 2 := ⟨d - 2, by omega⟩
  exact sc_fin 13 (pc + 1) (e + 1) rc fi ci fo co (upd stk e ((stk e) ^^^ (stk (e + 1)))) ret xo yi yo I (by decide) hop hh ⟨by omega, hRi, hRo, hO, fun _ => ⟨hn, hE, hT, hQ⟩⟩ (fun post h => sx_o13 post (by omega) hop (by omega) (by omega) hh h) (fun post h => sy_o13 post (by omega) (by omega) (by omega) (by omega) h)
theorem sc_g14 (I : sc_I 1 pc P S R Q sz d rc fi ci fo co ops args ret xi xo yi yo) (hop : ops pc = nI 14) (hh : sc_hin 14 d S rc R ci co Q = 1) : ∃ (r : Int32) (s : Nat) (u' : SX) (v' : SY), (∀ post : Int32 → SX → Prop, post r u' → wpX_executeOne post (nI P, nI S, nI R, nI Q, nI 1, nI pc, nI sz, nI d, nI rc, nI fi, nI ci, nI fo, nI co, ops, args, stk, ret, xi, xo)) ∧ (∀ post : Int32 → SY → Prop, post r v' → wpY_step post (nI P, nI S, nI R, nI Q, nI sz, nI d, nI rc, nI ci, nI co, nI 1, nI pc, ops, args, stk, ret, yi, yo)) ∧ sc_J s 1 u' v' ∧ ((r = nI s ∧ 1 ≤ s ∧ s ≤ 6) ∨ (s = 1 ∧ (r = 7 ∨ r = 8))) := by
  have h1 := sc_hin_1 hh
  have e1 : sc_nd 14 = 2 := rfl
  have e2 : sc_gr 14 = 0 := rfl
  have I0 := I
  obtain ⟨hb, hRi, hRo, hO, hr⟩ := I0
  obtain ⟨hpc, hE, hT, hQ⟩ := hr rfl
  have hn := sc_nxt hE hpc hop (by decide) (by decide) (by decide) (by decide)
  obtain ⟨e, rfl⟩ : ∃ e, d = e + 2 := ⟨d - 2, by omega⟩
  exact sc_fin 14 (pc + 1) (e + 1) rc fi ci fo co (upd stk e (if (stk (e + 1)) ≤ (stk e) then 0 else 1)) ret xo yi yo I (by decide) hop hh ⟨by omega, hRi, hRo, hO, fun _ => ⟨hn, hE, hT, hQ⟩⟩ (fun post h => sx_o14 post (by omega) hop (by omega) (by omega) hh h) (fun post h => sy_o14 post (by omega) (by omega) (by omega) (by omega) h)
theorem sc_g0 (I : sc_I 1 pc P S R Q sz d rc fi ci fo co ops args ret xi xo yi yo) (hop : ops pc = nI 0) (hh : sc_hin 0 d S rc R ci co Q = 1) : ∃ (r : Int32) (s : Nat) (u' : SX) (v' : SY), (∀ post : Int32 → SX → Prop, post r u' → wpX_executeOne post (nI P, nI S, nI R, nI Q, nI 1, nI pc, nI sz, nI d, nI rc, nI fi, nI ci, nI fo, nI co, ops, args, stk, ret, xi, xo)) ∧ (∀ post : Int32 → SY → Prop, post r v' → wpY_step post (nI P, nI S, nI R, nI Q, nI sz, nI d, nI rc, nI ci, nI co, nI 1, nI pc, ops, args, stk, ret, yi, yo)) ∧ sc_J s 1 u' v' ∧ ((r = nI s ∧ 1 ≤ s ∧ s ≤ 6) ∨ (s = 1 ∧ (r = 7 ∨ r = 8))) := by
  have h1 := sc_hin_1 hh
  have e1 : sc_nd 0 = 0 := rfl
  have e2 : sc_gr 0 = 1 := rfl
  have I0 := I
  obtain ⟨hb, hRi, hRo, hO, hr⟩ := I0
  obtain ⟨hpc, hE, hT, hQ⟩ := hr rfl
  exact ⟨2, 2, _, _, fun post h => sx_o0 post (by omega) hop (by omega) hh h, fun post h => sy_step post (o := 0) (by decide) (by omega) (by omega) hpc hop (fun _ => sy_o0 post (by omega) (by omega) h) (fun k e1 e2 => absurd (e1.symm.trans hh) e2), ⟨pc, P, S, R, Q, sz, d, rc, fi, ci, fo, co, ops, args, stk, ret, xi, xo, yi, yo, rfl, rfl, ⟨by omega, hRi, hRo, hO, fun z => absurd z (by decide)⟩⟩, Or.inl ⟨rfl, by decide, by decide⟩⟩
theorem sc_g15 (I : sc_I 1 pc P S R Q sz d rc fi ci fo co ops args ret xi xo yi yo) (hop : ops pc = nI 15) (hh : sc_hin 15 d S rc R ci co Q = 1) : ∃ (r : Int32) (s : Nat) (u' : SX) (v' : SY), (∀ post : Int32 → SX → Prop, post r u' → wpX_executeOne post (nI P, nI S, nI R, nI Q, nI 1, nI pc, nI sz, nI d, nI rc, nI fi, nI ci, nI fo, nI co, ops, args, stk, ret, xi, xo)) ∧ (∀ post : Int32 → SY → Prop, post r v' → wpY_step post (nI P, nI S, nI R, nI Q, nI sz, nI d, nI rc, nI ci, nI co, nI 1, nI pc, ops, args, stk, ret, yi, yo)) ∧ sc_J s 1 u' v' ∧ ((r = nI s ∧ 1 ≤ s ∧ s ≤ 6) ∨ (s = 1 ∧ (r = 7 ∨ r = 8))) := by
  have h1 := sc_hin_1 hh
  have e1 : sc_nd 15 = 0 := rfl
  have e2 : sc_gr 15 = 2 := rfl
  have I0 := I
  obtain ⟨hb, hRi, hRo, hO, hr⟩ := I0
  obtain ⟨hpc, hE, hT, hQ⟩ := hr rfl
  have hn := sc_nxt hE hpc hop (by decide) (by decide) (by decide) (by decide)
  obtain ⟨c, rfl⟩ : ∃ c, ci = c + 1 := ⟨ci - 1, by omega⟩
  exact sc_fin 15 (pc + 1) (d + 1) rc ((fi + 1) % 8) c fo co (upd stk d (xi fi)) ret xo (sc_sh yi c) yo I (by decide) hop hh ⟨by omega, sc_R_get hRi (fun i hi => if_pos hi), hRo, hO, fun _ => ⟨hn, hE, hT, hQ⟩⟩ (fun post h => sx_o15 post (by omega) hop (by omega) hh (by omega) (by omega) h) (fun post h => sy_o15 post (by omega) (by omega) (by omega) (by omega) (by rw [sc_R_front (by omega) hRi]; exact h))
theorem sc_g16 (I : sc_I 1 pc P S R Q sz d rc fi ci fo co ops args ret xi xo yi yo) (hop : ops pc = nI 16) (hh : sc_hin 16 d S rc R ci co Q = 1) : ∃ (r : Int32) (s : Nat) (u' : SX) (v' : SY), (∀ post : Int32 → SX → Prop, post r u' → wpX_executeOne post (nI P, nI S, nI R, nI Q, nI 1, nI pc, nI sz, nI d, nI rc, nI fi, nI ci, nI fo, nI co, ops, args, stk, ret, xi, xo)) ∧ (∀ post : Int32 → SY → Prop, post r v' → wpY_step post (nI P, nI S, nI R, nI Q, nI sz, nI d, nI rc, nI ci, nI co, nI 1, nI pc, ops, args, stk, ret, yi, yo)) ∧ sc_J s 1 u' v' ∧ ((r = nI s ∧ 1 ≤ s ∧ s ≤ 6) ∨ (s = 1 ∧ (r = 7 ∨ r = 8))) := by
  have h1 := sc_hin_1 hh
  have e1 : sc_nd 16 = 1 := rfl
  have e2 : sc_gr 16 = 0 := rfl
  have I0 := I
  obtain ⟨hb, hRi, hRo, hO, hr⟩ := I0
  obtain ⟨hpc, hE, hT, hQ⟩ := hr rfl
  have hn := sc_nxt hE hpc hop (by decide) (by decide) (by decide) (by decide)
  obtain ⟨e, rfl⟩ : ∃ e, d = e + 1 := ⟨d - 1, by omega⟩
  exact sc_fin 16 (pc + 1) e rc fi ci fo (co + 1) stk ret (upd xo ((fo + co) % 8) (stk e)) yi (upd yo co (stk e)) I (by decide) hop hh ⟨by omega, hRi, sc_R_put hRo (by omega), hO, fun _ => ⟨hn, hE, hT, hQ⟩⟩ (fun post h => sx_o16 post (by omega) hop (by omega) hh (by omega) h) (fun post h => sy_o16 post (by omega) (by omega) (by omega) (by omega) h)
theorem sc_g17 (I : sc_I 1 pc P S R Q sz d rc fi ci fo co ops args ret xi xo yi yo) (hop : ops pc = nI 17) (hh : sc_hin 17 d S rc R ci co Q = 1) : ∃ (r : Int32) (s : Nat) (u' : SX) (v' : SY), (∀ post : Int32 → SX → Prop, post r u' → wpX_executeOne post (nI P, nI S, nI R, nI Q, nI 1, nI pc, nI sz, nI d, nI rc, nI fi, nI ci, nI fo, nI co, ops, args, stk, ret, xi, xo)) ∧ (∀ post : Int32 → SY → Prop, post r v' → wpY_step post (nI P, nI S, nI R, nI Q, nI sz, nI d, nI rc, nI ci, nI co, nI 1, nI pc, ops, args, stk, ret, yi, yo)) ∧ sc_J s 1 u' v' ∧ ((r = nI s ∧ 1 ≤ s ∧ s ≤ 6) ∨ (s = 1 ∧ (r = 7 ∨ r = 8))) := by
  have h1 := sc_hin_1 hh
  have e1 : sc_nd 17 = 0 := rfl
  have e2 : sc_gr 17 = 1 := rfl
  have I0 := I
  obtain ⟨hb, hRi, hRo, hO, hr⟩ := I0
  obtain ⟨hpc, hE, hT, hQ⟩ := hr rfl
  obtain ⟨t, ht, et⟩ := hT pc hpc (Or.inl hop)
  exact sc_fin 17 t d rc fi ci fo co stk ret xo yi yo I (by decide) hop hh ⟨by omega, hRi, hRo, hO, fun _ => ⟨ht, hE, hT, hQ⟩⟩ (fun post h => sx_o17 post (by omega) hop (by omega) hh (by rw [et]; exact h)) (fun post h => sy_o17 post (by omega) (by omega) (by rw [et]; exact h))
theorem sc_g18 (I : sc_I 1 pc P S R Q sz d rc fi ci fo co ops args ret xi xo yi yo) (hop : ops pc = nI 18) (hh : sc_hin 18 d S rc R ci co Q = 1) : ∃ (r : Int32) (s : Nat) (u' : SX) (v' : SY), (∀ post : Int32 → SX → Prop, post r u' → wpX_executeOne post (nI P, nI S, nI R, nI Q, nI 1, nI pc, nI sz, nI d, nI rc, nI fi, nI ci, nI fo, nI co, ops, args, stk, ret, xi, xo)) ∧ (∀ post : Int32 → SY → Prop, post r v' → wpY_step post (nI P, nI S, nI R, nI Q, nI sz, nI d, nI rc, nI ci, nI co, nI 1, nI pc, ops, args, stk, ret, yi, yo)) ∧ sc_J s 1 u' v' ∧ ((r = nI s ∧ 1 ≤ s ∧ s ≤ 6) ∨ (s = 1 ∧ (r = 7 ∨ r = 8))) := by
  have h1 := sc_hin_1 hh
  have e1 : sc_nd 18 = 1 := rfl
  have e2 : sc_gr 18 = 0 := rfl
  have I0 := I
  obtain ⟨hb, hRi, hRo, hO, hr⟩ := I0
  obtain ⟨hpc, hE, hT, hQ⟩ := hr rfl
  have hn := sc_nxt hE hpc hop (by decide) (by decide) (by decide) (by decide)
  obtain ⟨t, ht, et⟩ := hT pc hpc (Or.inr (Or.inl hop))
  obtain ⟨e, rfl⟩ : ∃ e, d = e + 1 := ⟨d - 1, by omega⟩
  by_cases hz : stk e = 0
  · exact sc_fin 18 t e rc fi ci fo co stk ret xo yi yo I (by decide) hop hh ⟨by omega, hRi, hRo, hO, fun _ => ⟨ht, hE, hT, hQ⟩⟩ (fun post h => sx_o18z post (by omega) hop (by omega) hh hz (by rw [et]; exact h)) (fun post h => sy_o18z post (by omega) (by omega) (by omega) hz (by rw [et]; exact h))
  · exact sc_fin 18 (pc + 1) e rc fi ci fo co stk ret xo yi yo I (by decide) hop hh ⟨by omega, hRi, hRo, hO, fun _ => ⟨hn, hE, hT, hQ⟩⟩ (fun post h => sx_o18n post (by omega) hop (by omega) hh hz h) (fun post h => sy_o18n post (by omega) (by omega) (by omega) hz h)
theorem sc_g19 (I : sc_I 1 pc P S R Q sz d rc fi ci fo co ops args ret xi xo yi yo) (hop : ops pc = nI 19) (hh : sc_hin 19 d S rc R ci co Q = 1) : ∃ (r : Int32) (s : Nat) (u' : SX) (v' : SY), (∀ post : Int32 → SX → Prop, post r u' → wpX_executeOne post (nI P, nI S, nI R, nI Q, nI 1, nI pc, nI sz, nI d, nI rc, nI fi, nI ci, nI fo, nI co, ops, args, stk, ret, xi, xo)) ∧ (∀ post : Int32 → SY → Prop, post r v' → wpY_step post (nI P, nI S, nI R, nI Q, nI sz, nI d, nI rc, nI ci, nI co, nI 1, nI pc, ops, args, stk, ret, yi, yo)) ∧ sc_J s 1 u' v' ∧ ((r = nI s ∧ 1 ≤ s ∧ s ≤ 6) ∨ (s = 1 ∧ (r = 7 ∨ r = 8))) := by
  have h1 := sc_hin_1 hh
  have e1 : sc_nd 19 = 0 := rfl
  have e2 : sc_gr 19 = 1 := rfl
  have I0 := I
  obtain ⟨hb, hRi, hRo, hO, hr⟩ := I0
  obtain ⟨hpc, hE, hT, hQ⟩ := hr rfl
  have hn := sc_nxt hE hpc hop (by decide) (by decide) (by decide) (by decide)
  obtain ⟨t, ht, et⟩ := hT pc hpc (Or.inr (Or.inr hop))
  exact sc_fin 19 t d (rc + 1) fi ci fo co stk (upd ret rc (nI (pc + 1))) xo yi yo I (by decide) hop hh ⟨by omega, hRi, hRo, hO, fun _ => ⟨ht, hE, hT, sc_Q_put hQ hn⟩⟩ (fun post h => sx_o19 post (by omega) hop (by omega) hh (by omega) (by rw [et]; exact h)) (fun post h => sy_o19 post (by omega) (by omega) (by omega) (by rw [et]; exact h))
theorem sc_g20 (I : sc_I 1 pc P S R Q sz d rc fi ci fo co ops args ret xi xo yi yo) (hop : ops pc = nI 20) (hh : sc_hin 20 d S rc R ci co Q = 1) : ∃ (r : Int32) (s : Nat) (u' : SX) (v' : SY), (∀ post : Int32 → SX → Prop, post r u' → wpX_executeOne post (nI P, nI S, nI R, nI Q, nI 1, nI pc, nI sz, nI d, nI rc, nI fi, nI ci, nI fo, nI co, ops, args, stk, ret, xi, xo)) ∧ (∀ post : Int32 → SY → Prop, post r v' → wpY_step post (nI P, nI S, nI R, nI Q, nI sz, nI d, nI rc, nI ci, nI co, nI 1, nI pc, ops, args, stk, ret, yi, yo)) ∧ sc_J s 1 u' v' ∧ ((r = nI s ∧ 1 ≤ s ∧ s ≤ 6) ∨ (s = 1 ∧ (r = 7 ∨ r = 8))) := by
  have h1 := sc_hin_1 hh
  have e1 : sc_nd 20 = 0 := rfl
  have e2 : sc_gr 20 = 1 := rfl
  have I0 := I
  obtain ⟨hb, hRi, hRo, hO, hr⟩ := I0
  obtain ⟨hpc, hE, hT, hQ⟩ := hr rfl
  obtain ⟨c, rfl⟩ : ∃ c, rc = c + 1 := ⟨rc - 1, by omega⟩
  obtain ⟨t, ht, et⟩ := hQ c (by omega)
  exact sc_fin 20 t d c fi ci fo co stk ret xo yi yo I (by decide) hop hh ⟨by omega, hRi, hRo, hO, fun _ => ⟨ht, hE, hT, sc_Q_le hQ (by omega)⟩⟩ (fun post h => sx_o20 post (by omega) hop (by omega) hh (by omega) (by rw [et]; exact h)) (fun post h => sy_o20 post (by omega) (by omega) (by omega) (by rw [et]; exact h))
theorem sc_go (I : sc_I 1 pc P S R Q sz d rc fi ci fo co ops args ret xi xo yi yo) : ∀ o, o ≤ 20 → (ops pc = nI o → sc_hin o d S rc R ci co Q = 1 → ∃ (r : Int32) (s : Nat) (u' : SX) (v' : SY), (∀ post : Int32 → SX → Prop, post r u' → wpX_executeOne post (nI P, nI S, nI R, nI Q, nI 1, nI pc, nI sz, nI d, nI rc, nI fi, nI ci, nI fo, nI co, ops, args, stk, ret, xi, xo)) ∧ (∀ post : Int32 → SY → Prop, post r v' → wpY_step post (nI P, nI S, nI R, nI Q, nI sz, nI d, nI rc, nI ci, nI co, nI 1, nI pc, ops, args, stk, ret, yi, yo)) ∧ sc_J s 1 u' v' ∧ ((r = nI s ∧ 1 ≤ s ∧ s ≤ 6) ∨ (s = 1 ∧ (r = 7 ∨ r = 8)))) :=
  sc_21 (P := fun o => ops pc = nI o → sc_hin o d S rc R ci co Q = 1 → ∃ (r : Int32) (s : Nat) (u' : SX) (v' : SY), (∀ post : Int32 → SX → Prop, post r u' → wpX_executeOne post (nI P, nI S, nI R, nI Q, nI 1, nI pc, nI sz, nI d, nI rc, nI fi, nI ci, nI fo, nI co, ops, args, stk, ret, xi, xo)) ∧ (∀ post : Int32 → SY → Prop, post r v' → wpY_step post (nI P, nI S, nI R, nI Q, nI sz, nI d, nI rc, nI ci, nI co, nI 1, nI pc, ops, args, stk, ret, yi, yo)) ∧ sc_J s 1 u' v' ∧ ((r = nI s ∧ 1 ≤ s ∧ s ≤ 6) ∨ (s = 1 ∧ (r = 7 ∨ r = 8)))) (sc_g0 I) (sc_g1 I) (sc_g2 I) (sc_g3 I) (sc_g4 I) (sc_g5 I) (sc_g6 I) (sc_g7 I) (sc_g8 I) (sc_g9 I) (sc_g10 I) (sc_g11 I) (sc_g12 I) (sc_g13 I) (sc_g14 I) (sc_g15 I) (sc_g16 I) (sc_g17 I) (sc_g18 I) (sc_g19 I) (sc_g20 I)
theorem sc_step (I : sc_I 1 pc P S R Q sz d rc fi ci fo co ops args ret xi xo yi yo) : ∃ (r : Int32) (s : Nat) (u' : SX) (v' : SY), (∀ post : Int32 → SX → Prop, post r u' → wpX_executeOne post (nI P, nI S, nI R, nI Q, nI 1, nI pc, nI sz, nI d, nI rc, nI fi, nI ci, nI fo, nI co, ops, args, stk, ret, xi, xo)) ∧ (∀ post : Int32 → SY → Prop, post r v' → wpY_step post (nI P, nI S, nI R, nI Q, nI sz, nI d, nI rc, nI ci, nI co, nI 1, nI pc, ops, args, stk, ret, yi, yo)) ∧ sc_J s 1 u' v' ∧ ((r = nI s ∧ 1 ≤ s ∧ s ≤ 6) ∨ (s = 1 ∧ (r = 7 ∨ r = 8))) := by
  have I0 := I
  obtain ⟨hb, hRi, hRo, hO, hr⟩ := I0
  obtain ⟨hpc, hE, hT, hQ⟩ := hr rfl
  obtain ⟨o, ho, hop⟩ := hO pc hpc
  by_cases c1 : sc_hin o d S rc R ci co Q = 1
  · exact sc_go I o ho hop c1
  · have hr2 := sc_hin_r o d S rc R ci co Q
    generalize hk : sc_hin o d S rc R ci co Q = k at c1 hr2
    have hy : ∀ post : Int32 → SY → Prop, post (nI k) (nI P, nI S, nI R, nI Q, nI sz, nI d, nI rc, nI ci, nI co, nI 1, nI pc, ops, args, stk, ret, yi, yo) → wpY_step post (nI P, nI S, nI R, nI Q, nI sz, nI d, nI rc, nI ci, nI co, nI 1, nI pc, ops, args, stk, ret, yi, yo) := fun post h => sy_step post ho (by omega) (by omega) hpc hop (fun e => absurd (hk.symm.trans e) c1) (fun j ej _ => by rw [← ej, hk]; exact h)
    by_cases c2 : k ≤ 6
    · exact ⟨nI k, k, _, _, fun post h => sx_flt post ho (by omega) hop (by omega) hk (by omega) h, hy, ⟨pc, P, S, R, Q, sz, d, rc, fi, ci, fo, co, ops, args, stk, ret, xi, xo, yi, yo, rfl, rfl, ⟨by omega, hRi, hRo, hO, fun z => absurd z c1⟩⟩, Or.inl ⟨rfl, by omega, c2⟩⟩
    · have h78 : k = 7 ∨ k = 8 := by omega
      exact ⟨nI k, 1, _, _, fun post h => sx_wai post ho (by omega) hop (by omega) hk h78 h, hy, ⟨pc, P, S, R, Q, sz, d, rc, fi, ci, fo, co, ops, args, stk, ret, xi, xo, yi, yo, rfl, rfl, I⟩, Or.inr ⟨rfl, h78.elim (fun e => Or.inl (by rw [e]; rfl)) (fun e => Or.inr (by rw [e]; rfl))⟩⟩
end SCS
theorem sc_loop {L : Nat} (hL : L ≤ 256) : ∀ m i, i + m = L → ∀ (pc P S R Q sz d rc fi ci fo co : Nat) (ops args stk ret xi xo yi yo : Nat → Int32), sc_I 1 pc P S R Q sz d rc fi ci fo co ops args ret xi xo yi yo → ∃ (r : Int32) (u' : SX) (v' : SY), (∃ s, sc_J s s u' v') ∧ (∀ post : Int32 → SX → Prop, post r u' → wX_run_33 post (nI L) (m + 1) (nI i) (nI P) (nI S) (nI R) (nI Q) (nI 1) (nI pc) (nI sz) (nI d) (nI rc) (nI fi) (nI ci) (nI fo) (nI co) ops args stk ret xi xo) ∧ (∀ post : Int32 → SY → Prop, post r v' → wY_run_36 post (nI L) (m + 1) (nI i) (nI P) (nI S) (nI R) (nI Q) (nI sz) (nI d) (nI rc) (nI ci) (nI co) (nI 1) (nI pc) ops args stk ret yi yo) := by
  intro m
  induction m with
  | zero =>
    intro i hi pc P S R Q sz d rc fi ci fo co ops args stk ret xi xo yi yo I
    have hl : nI L ≤ nI i := nI_le (by omega) (by omega)
    exact ⟨1, _, _, ⟨1, pc, P, S, R, Q, sz, d, rc, fi, ci, fo, co, ops, args, stk, ret, xi, xo, yi, yo, rfl, rfl, I⟩, fun post h => br_t hl h, fun post h => br_t hl h⟩
  | succ m ih =>
    intro i hi pc P S R Q sz d rc fi ci fo co ops args stk ret xi xo yi yo I
    have hl : ¬ nI L ≤ nI i := nI_ge (by omega) (by omega)
    obtain ⟨r, s, u', v', hx, hy, J, hr⟩ := sc_step (stk := stk) I
    obtain ⟨pc', P', S', R', Q', sz', d', rc', fi', ci', fo', co', ops', args', stk', ret', xi', xo', yi', yo', rfl, rfl, I'⟩ := J
    rcases hr with ⟨rfl, h1, h6⟩ | ⟨rfl, hr⟩
    · by_cases c : s = 1
      · subst c
        obtain ⟨r2, u2, v2, rel, hx2, hy2⟩ := ih (i + 1) (by omega) pc' P' S' R' Q' sz' d' rc' fi' ci' fo' co' ops' args' stk' ret' xi' xo' yi' yo' I'
        exact ⟨r2, u2, v2, rel, fun post h => br_f hl (hx _ (br_t rfl (nm_r (nI_1 i) (hx2 post h)))), fun post h => br_f hl (hy _ (br_f (by decide) (br_f (by decide) (br_t rfl (nm_r (nI_1 i) (hy2 post h))))))⟩
      · have n1 : ¬ nI s = 1 := fun e => c ((nI_eq (b := 1) (by omega) (by omega)).mp e)
        have n7 : ¬ nI s = 7 := fun e => absurd ((nI_eq (b := 7) (by omega) (by omega)).mp e) (by omega)
        have n8 : ¬ nI s = 8 := fun e => absurd ((nI_eq (b := 8) (by omega) (by omega)).mp e) (by omega)
        exact ⟨nI s, _, _, ⟨s, pc', P', S', R', Q', sz', d', rc', fi', ci', fo', co', ops', args', stk', ret', xi', xo', yi', yo', rfl, rfl, I'⟩, fun post h => br_f hl (hx _ (br_f n1 h)), fun post h => br_f hl (hy _ (br_f n7 (br_f n8 (br_f n1 h))))⟩
    · rcases hr with rfl | rfl
      · exact ⟨7, _, _, ⟨1, pc', P', S', R', Q', sz', d', rc', fi', ci', fo', co', ops', args', stk', ret', xi', xo', yi', yo', rfl, rfl, I'⟩, fun post h => br_f hl (hx _ (br_f (by decide) h)), fun post h => br_f hl (hy _ (br_t rfl (br_f (by decide) h)))⟩
      · exact ⟨8, _, _, ⟨1, pc', P', S', R', Q', sz', d', rc', fi', ci', fo', co', ops', args', stk', ret', xi', xo', yi', yo', rfl, rfl, I'⟩, fun post h => br_f hl (hx _ (br_f (by decide) h)), fun post h => br_f hl (hy _ (br_f (by decide) (br_t rfl (br_f (by decide) h))))⟩
end
section
section SCC
variable {P S R Q st pc sz d rc fi ci fo co : Nat} {ops args stk ret xi xo yi yo : Nat → Int32}
theorem sc_ne {a b : Nat} (ha : a < 2 ^ 31) (hb : b < 2 ^ 31) (h : a ≠ b) : ¬ nI a = nI b := fun e => h ((nI_eq ha hb).mp e)
theorem i_vc0 (k0 : Int32) (k1 : Int32) (k2 : Int32) (k3 : Int32) : wpX_init (fun u => wpY_init (fun v => i_Rel 4 u v) k0 k1 k2 k3) k0 k1 k2 k3 := by
  obtain ⟨a, a1, a2, ax, ay⟩ := sc_cl 8 24 (by decide) (by decide) k0
  obtain ⟨b, b1, b2, bx, b'⟩ := sc_cl 4 32 (by decide) (by decide) k1
  obtain ⟨c, c1, c2, cx, cy⟩ := sc_cl 1 8 (by decide) (by decide) k2
  obtain ⟨q, q1, q2, qx, qy⟩ := sc_cl 1 8 (by decide) (by decide) k3
  unfold wpX_init
  refine ax _ ?_
  refine bx _ ?_
  refine cx _ ?_
  refine qx _ ?_
  unfold wpY_init
  refine ay _ _ ?_
  refine b' _ _ ?_
  refine cy _ _ ?_
  refine qy _ _ ?_
  exact ⟨0, 0, a, b, c, q, 0, 0, 0, 0, 0, 0, 0, fun _ => 0, fun _ => 0, fun _ => 0, fun _ => 0, fun _ => 0, fun _ => 0, fun _ => 0, fun _ => 0, rfl, rfl, ⟨by omega, sc_R_0, sc_R_0, fun i h => absurd h (Nat.not_lt_zero i), fun z => absurd z (by decide)⟩⟩
theorem i_vc_emit {k : Nat} {u : SX} {v : SY} (I : i_Rel k u v) (hk : k + 3 ≤ 1540) (v1 : Int32) (v2 : Int32) : wpX_emit (fun r u' => wpY_emit (fun r' v' => r' = r ∧ i_Rel (k + 3) u' v') v v1 v2) u v1 v2 := by
  obtain ⟨st, pc, P, S, R, Q, sz, d, rc, fi, ci, fo, co, ops, args, stk, ret, xi, xo, yi, yo, rfl, rfl, I⟩ := I
  have I0 := I
  obtain ⟨hb, hRi, hRo, hO, hr⟩ := I0
  unfold wpX_emit
  by_cases c0 : st = 0
  · subst c0
    by_cases hneg : v1 < 0
    · exact br_t rfl (br_t hneg (br_t rfl (br_t hneg ⟨rfl, sc_rel _ I⟩)))
    · obtain ⟨o, ho, rfl⟩ := nI_of hneg
      by_cases h20 : (20 : Int32) < nI o
      · exact br_t rfl (br_f hneg (br_t h20 (br_t rfl (br_f hneg (br_t h20 ⟨rfl, sc_rel _ I⟩)))))
      · have ho20 : o ≤ 20 := Nat.le_of_not_lt fun c => h20 (nI_lt (a := 20) c ho)
        by_cases hz : sz < P
        · have z1 : nI sz < nI P := nI_lt hz (by omega)
          have cs : (nI sz).toNatClampNeg = sz := nI_clamp (by omega)
          have vi : vp_in (nI sz) 24 := vp_in_nI (by omega) (by omega)
          refine br_t rfl (br_f hneg (br_f h20 (br_t z1 ⟨vi, nm_r (e' := upd ops sz (nI o)) (by rw [cs]) ⟨vi, nm_r (e' := upd args sz v2) (by rw [cs]) (nm_r (nI_1 sz) ?_)⟩⟩)))
          refine br_t rfl (br_f hneg (br_f h20 (br_t z1 ⟨vi, nm_r (e' := upd ops sz (nI o)) (by rw [cs]) ⟨vi, nm_r (e' := upd args sz v2) (by rw [cs]) (nm_r (nI_1 sz) ⟨nI_pred sz, ?_⟩)⟩⟩)))
          exact sc_rel (st := 0) _ ⟨by omega, hRi, hRo, sc_O_put hO ho20, fun z => absurd z (by decide)⟩
        · have z1 : ¬ nI sz < nI P := nI_nlt (by omega) (by omega)
          exact br_t rfl (br_f hneg (br_f h20 (br_f z1 (br_t rfl (br_f hneg (br_f h20 (br_f z1 ⟨rfl, sc_rel _ I⟩)))))))
  · have n0 : ¬ nI st = 0 := sc_ne (b := 0) (by omega) (by omega) c0
    exact br_f n0 (br_f n0 ⟨rfl, sc_rel _ I⟩)
theorem i_vc_patch {k : Nat} {u : SX} {v : SY} (I : i_Rel k u v) (hk : k + 3 ≤ 1540) (v1 : Int32) (v2 : Int32) : wpX_patch (fun r u' => wpY_patch (fun r' v' => r' = r ∧ i_Rel (k + 3) u' v') v v1 v2) u v1 v2 := by
  obtain ⟨st, pc, P, S, R, Q, sz, d, rc, fi, ci, fo, co, ops, args, stk, ret, xi, xo, yi, yo, rfl, rfl, I⟩ := I
  have I0 := I
  obtain ⟨hb, hRi, hRo, hO, hr⟩ := I0
  unfold wpX_patch
  by_cases c0 : st = 0
  · subst c0
    by_cases hneg : v1 < 0
    · exact br_t rfl (br_t hneg (br_t rfl (br_t hneg ⟨rfl, sc_rel _ I⟩)))
    · obtain ⟨j, hj, rfl⟩ := nI_of hneg
      by_cases hz : j < sz
      · have z1 : nI j < nI sz := nI_lt hz (by omega)
        have cs : (nI j).toNatClampNeg = j := nI_clamp hj
        have vi : vp_in (nI j) 24 := vp_in_nI (by omega) (by omega)
        refine br_t rfl (br_f hneg (br_t z1 ⟨vi, nm_r (e' := upd args j v2) (by rw [cs]) ?_⟩))
        refine br_t rfl (br_f hneg (br_t z1 ⟨vi, nm_r (e' := upd args j v2) (by rw [cs]) ⟨rfl, ?_⟩⟩))
        exact sc_rel (st := 0) _ ⟨by omega, hRi, hRo, hO, fun z => absurd z (by decide)⟩
      · have z1 : ¬ nI j < nI sz := nI_nlt (by omega) (by omega)
        exact br_t rfl (br_f hneg (br_f z1 (br_t rfl (br_f hneg (br_f z1 ⟨rfl, sc_rel _ I⟩)))))
  · have n0 : ¬ nI st = 0 := sc_ne (b := 0) (by omega) (by omega) c0
    exact br_f n0 (br_f n0 ⟨rfl, sc_rel _ I⟩)
theorem i_vc_erase {k : Nat} {u : SX} {v : SY} (I : i_Rel k u v) (hk : k + 3 ≤ 1540) : wpX_erase (fun r u' => wpY_erase (fun r' v' => r' = r ∧ i_Rel (k + 3) u' v') v) u := by
  obtain ⟨st, pc, P, S, R, Q, sz, d, rc, fi, ci, fo, co, ops, args, stk, ret, xi, xo, yi, yo, rfl, rfl, I⟩ := I
  have I0 := I
  obtain ⟨hb, hRi, hRo, hO, hr⟩ := I0
  unfold wpX_erase
  by_cases c0 : st = 0
  · subst c0
    by_cases hz : sz = 0
    · subst hz
      exact br_t rfl (br_t rfl (br_t rfl (br_t rfl ⟨rfl, sc_rel _ I⟩)))
    · have z1 : ¬ nI sz = 0 := sc_ne (b := 0) (by omega) (by omega) hz
      refine br_t rfl (br_f z1 (nm_r (sc_m1 (by omega)) ?_))
      refine br_t rfl (br_f z1 (nm_r (sc_m1 (by omega)) ⟨rfl, ?_⟩))
      exact sc_rel (st := 0) _ ⟨by omega, hRi, hRo, sc_O_le hO (by omega), fun z => absurd z (by decide)⟩
  · have n0 : ¬ nI st = 0 := sc_ne (b := 0) (by omega) (by omega) c0
    exact br_f n0 (br_f n0 ⟨rfl, sc_rel _ I⟩)
theorem i_vc_edit {k : Nat} {u : SX} {v : SY} (I : i_Rel k u v) (hk : k + 3 ≤ 1540) : wpX_edit (fun r u' => wpY_edit (fun r' v' => r' = r ∧ i_Rel (k + 3) u' v') v) u := by
  obtain ⟨st, pc, P, S, R, Q, sz, d, rc, fi, ci, fo, co, ops, args, stk, ret, xi, xo, yi, yo, rfl, rfl, I⟩ := I
  have I0 := I
  obtain ⟨hb, hRi, hRo, hO, hr⟩ := I0
  unfold wpX_edit
  by_cases c0 : st = 0
  · subst c0
    exact br_t rfl (br_t rfl ⟨rfl, sc_rel _ I⟩)
  · have n0 : ¬ nI st = 0 := sc_ne (b := 0) (by omega) (by omega) c0
    refine br_f n0 ?_
    unfold wpX_restart
    refine br_f n0 ?_
    unfold wpY_restart
    exact ⟨rfl, sc_rel (st := 0) (pc := 0) (d := 0) (rc := 0) _ ⟨by omega, hRi, hRo, hO, fun z => absurd z (by decide)⟩⟩
theorem i_vc_clear {k : Nat} {u : SX} {v : SY} (I : i_Rel k u v) (hk : k + 3 ≤ 1540) : wpX_clear (fun u' => wpY_clear (fun v' => i_Rel (k + 3) u' v') v) u := by
  obtain ⟨st, pc, P, S, R, Q, sz, d, rc, fi, ci, fo, co, ops, args, stk, ret, xi, xo, yi, yo, rfl, rfl, I⟩ := I
  have I0 := I
  obtain ⟨hb, hRi, hRo, hO, hr⟩ := I0
  unfold wpX_clear
  unfold wpX_restart
  show wpY_clear _ _
  unfold wpY_clear
  unfold wpY_restart
  exact sc_rel (st := 0) (pc := 0) (sz := 0) (d := 0) (rc := 0) (fi := 0) (ci := 0) (fo := 0) (co := 0) _ ⟨by omega, sc_R_0, sc_R_0, fun i h => absurd h (Nat.not_lt_zero i), fun z => absurd z (by decide)⟩
theorem i_vc_feed {k : Nat} {u : SX} {v : SY} (I : i_Rel k u v) (hk : k + 3 ≤ 1540) (v1 : Int32) : wpX_feed (fun r u' => wpY_feed (fun r' v' => r' = r ∧ i_Rel (k + 3) u' v') v v1) u v1 := by
  obtain ⟨st, pc, P, S, R, Q, sz, d, rc, fi, ci, fo, co, ops, args, stk, ret, xi, xo, yi, yo, rfl, rfl, I⟩ := I
  have I0 := I
  obtain ⟨hb, hRi, hRo, hO, hr⟩ := I0
  unfold wpX_feed
  by_cases hz : ci < Q
  · have z1 : nI ci < nI Q := nI_lt hz (by omega)
    refine br_t z1 ?_
    refine sx_ring _ (by omega) ?_
    refine ⟨vp_in_nI (Nat.mod_lt _ (by decide)) (by omega), nm_r (e' := upd xi ((fi + ci) % 8) v1) (by rw [nI_clamp (by omega)]) (nm_r (nI_1 ci) ?_)⟩
    refine br_t z1 ⟨vp_in_nI (by omega) (by omega), nm_r (e' := upd yi ci v1) (by rw [nI_clamp (by omega)]) (nm_r (nI_1 ci) ⟨rfl, ?_⟩)⟩
    exact sc_rel (ci := ci + 1) _ ⟨by omega, sc_R_put hRi (by omega), hRo, hO, hr⟩
  · have z1 : ¬ nI ci < nI Q := nI_nlt (by omega) (by omega)
    exact br_f z1 (br_f z1 ⟨rfl, sc_rel _ I⟩)
theorem i_vc_take {k : Nat} {u : SX} {v : SY} (I : i_Rel k u v) (hk : k + 3 ≤ 1540) : wpX_take (fun r u' => wpY_take (fun r' v' => r' = r ∧ i_Rel (k + 3) u' v') v) u := by
  obtain ⟨st, pc, P, S, R, Q, sz, d, rc, fi, ci, fo, co, ops, args, stk, ret, xi, xo, yi, yo, rfl, rfl, I⟩ := I
  have I0 := I
  obtain ⟨hb, hRi, hRo, hO, hr⟩ := I0
  unfold wpX_take
  by_cases hz : co = 0
  · subst hz
    exact br_t rfl (br_t rfl ⟨rfl, sc_rel _ I⟩)
  · obtain ⟨c, rfl⟩ : ∃ c, co = c + 1 := ⟨co - 1, by omega⟩
    have z1 : ¬ nI (c + 1) = 0 := sc_ne (b := 0) (by omega) (by omega) hz
    refine br_f z1 ⟨vp_in_nI (by omega) (by omega), nm_r (e' := xo fo) (by rw [nI_clamp (by omega)]) ?_⟩
    refine sx_ring (b := 1) _ (by omega) ?_
    refine nm_r (nI_pred c) ?_
    refine br_f z1 (nm_r (e' := xo fo) (sc_R_front (by omega) hRo) ⟨c + 1, ?_⟩)
    have T := sy_tk (P := P) (S := S) (R := R) (Q := Q) (st := st) (pc := pc) (sz := sz) (d := d) (rc := rc) (ci := ci) (ops := ops) (args := args) (stk := stk) (ret := ret) (yi := yi) (fun r' v' => r' = xo fo ∧ i_Rel (k + 3) (nI P, nI S, nI R, nI Q, nI st, nI pc, nI sz, nI d, nI rc, nI fi, nI ci, nI ((fo + 1) % 8), nI c, ops, args, stk, ret, xi, xo) v') (xo fo) yo (c := c) (by omega) ⟨rfl, sc_rel (fo := (fo + 1) % 8) (co := c) _ ⟨by omega, hRi, sc_R_get hRo (fun i hi => if_pos hi), hO, hr⟩⟩ c 0 (by omega)
    rw [sc_sh_0] at T
    exact T
theorem i_vc_status {k : Nat} {u : SX} {v : SY} (I : i_Rel k u v) (hk : k + 3 ≤ 1540) : wpX_status (fun r => wpY_status (fun r' => r' = r ∧ i_Rel (k + 3) u v) v) u := by
  obtain ⟨st, pc, P, S, R, Q, sz, d, rc, fi, ci, fo, co, ops, args, stk, ret, xi, xo, yi, yo, rfl, rfl, I⟩ := I
  exact ⟨rfl, sc_rel _ I⟩
theorem i_vc_pc {k : Nat} {u : SX} {v : SY} (I : i_Rel k u v) (hk : k + 3 ≤ 1540) : wpX_pc (fun r => wpY_pc (fun r' => r' = r ∧ i_Rel (k + 3) u v) v) u := by
  obtain ⟨st, pc, P, S, R, Q, sz, d, rc, fi, ci, fo, co, ops, args, stk, ret, xi, xo, yi, yo, rfl, rfl, I⟩ := I
  exact ⟨rfl, sc_rel _ I⟩
theorem i_vc_run {k : Nat} {u : SX} {v : SY} (I : i_Rel k u v) (hk : k + 3 ≤ 1540) (v1 : Int32) : wpX_run (fun r u' => wpY_run (fun r' v' => r' = r ∧ i_Rel (k + 3) u' v') v v1) u v1 := by
  obtain ⟨st, pc, P, S, R, Q, sz, d, rc, fi, ci, fo, co, ops, args, stk, ret, xi, xo, yi, yo, rfl, rfl, I⟩ := I
  have I0 := I
  obtain ⟨hb, hRi, hRo, hO, hr⟩ := I0
  unfold wpX_run
  by_cases c0 : st = 0
  · subst c0
    exact br_t rfl (br_f (by decide) (br_t rfl ⟨rfl, sc_rel _ I⟩))
  · have n0 : ¬ nI st = 0 := sc_ne (b := 0) (by omega) (by omega) c0
    by_cases c1 : st = 1
    · subst c1
      obtain ⟨n, _, hn, cx, cy⟩ := sc_cl 0 256 (by decide) (by decide) v1
      obtain ⟨r, u', v', rel, hx, hy⟩ := sc_loop hn n 0 (by omega) pc P S R Q sz d rc fi ci fo co ops args stk ret xi xo yi yo I
      refine br_f n0 (br_t rfl ?_)
      refine cx _ ⟨n + 1, ?_⟩
      refine hx _ ?_
      refine br_t rfl ?_
      refine cy _ _ ⟨n + 1, ?_⟩
      exact hy _ ⟨rfl, rel⟩
    · have n1 : ¬ nI st = 1 := sc_ne (b := 1) (by omega) (by omega) c1
      exact br_f n0 (br_f n1 (br_f n1 (br_f n0 ⟨rfl, sc_rel _ I⟩)))
end SCC
end
section
section SCD
variable {P S R Q st pc sz d rc fi ci fo co : Nat} {ops args stk ret xi xo yi yo : Nat → Int32}
/-! compile: the two scans go in step -/
theorem sx_tt (post : Int32 → Prop) {i n : Nat} (hi : i < sz) (hs : sz ≤ 24) (t : ops i = 17 ∨ ops i = 18 ∨ ops i = 19) (h : wX_targetsAreInside_40 post (wX_targetsAreInside_2 post (nI P) (nI S) (nI R) (nI Q) (nI st) (nI pc) (nI sz) (nI d) (nI rc) (nI fi) (nI ci) (nI fo) (nI co) ops args stk ret xi xo n) (nI i) 1 (nI P) (nI S) (nI R) (nI Q) (nI st) (nI pc) (nI sz) (nI d) (nI rc) (nI fi) (nI ci) (nI fo) (nI co) ops args stk ret xi xo) : wX_targetsAreInside_2 post (nI P) (nI S) (nI R) (nI Q) (nI st) (nI pc) (nI sz) (nI d) (nI rc) (nI fi) (nI ci) (nI fo) (nI co) ops args stk ret xi xo (n + 1) (nI i) := by
  have ci' : (nI i).toNatClampNeg = i := nI_clamp (by omega)
  exact br_f (nI_ge hi (by omega)) ⟨vp_in_nI (by omega) (by omega), nm_r (e' := ops i) (by rw [ci']) (br_c (fun _ => h) (fun n1 => br_c (fun _ => h) (fun n2 => br_c (fun _ => h) (fun n3 => absurd t (by simp [n1, n2, n3])))))⟩
theorem sx_tn (post : Int32 → Prop) {i n : Nat} (hi : i < sz) (hs : sz ≤ 24) (t : ¬ (ops i = 17 ∨ ops i = 18 ∨ ops i = 19)) (h : wX_targetsAreInside_2 post (nI P) (nI S) (nI R) (nI Q) (nI st) (nI pc) (nI sz) (nI d) (nI rc) (nI fi) (nI ci) (nI fo) (nI co) ops args stk ret xi xo n (nI (i + 1))) : wX_targetsAreInside_2 post (nI P) (nI S) (nI R) (nI Q) (nI st) (nI pc) (nI sz) (nI d) (nI rc) (nI fi) (nI ci) (nI fo) (nI co) ops args stk ret xi xo (n + 1) (nI i) := by
  have ci' : (nI i).toNatClampNeg = i := nI_clamp (by omega)
  exact br_f (nI_ge hi (by omega)) ⟨vp_in_nI (by omega) (by omega), nm_r (e' := ops i) (by rw [ci']) (br_f (fun e => t (Or.inl e)) (br_f (fun e => t (Or.inr (Or.inl e))) (br_f (fun e => t (Or.inr (Or.inr e))) (br_t rfl (nm_r (nI_1 i) h)))))⟩
theorem sy_tt (post : Int32 → SY → Prop) {i n : Nat} (hi : i < sz) (hs : sz ≤ 24) (t : ops i = 17 ∨ ops i = 18 ∨ ops i = 19) (h : wY_compile_98 post (wY_compile_52 post (nI P) (nI S) (nI R) (nI Q) (nI sz) (nI d) (nI rc) (nI ci) (nI co) (nI st) (nI pc) ops args stk ret yi yo n) (nI i) 1 (nI P) (nI S) (nI R) (nI Q) (nI sz) (nI d) (nI rc) (nI ci) (nI co) (nI st) (nI pc) ops args stk ret yi yo) : wY_compile_52 post (nI P) (nI S) (nI R) (nI Q) (nI sz) (nI d) (nI rc) (nI ci) (nI co) (nI st) (nI pc) ops args stk ret yi yo (n + 1) (nI i) := by
  have ci' : (nI i).toNatClampNeg = i := nI_clamp (by omega)
  have vi : vp_in (nI i) 24 := vp_in_nI (by omega) (by omega)
  have t2 : ops (nI i).toNatClampNeg = 17 ∨ ops (nI i).toNatClampNeg = 18 ∨ ops (nI i).toNatClampNeg = 19 := by rw [ci']; exact t
  exact br_f (nI_ge hi (by omega)) ⟨vi, br_c (fun _ => h) (fun n1 => ⟨vi, br_c (fun _ => h) (fun n2 => ⟨vi, br_c (fun _ => h) (fun n3 => absurd t2 (by simp [n1, n2, n3]))⟩)⟩)⟩
theorem sy_tn (post : Int32 → SY → Prop) {i n : Nat} (hi : i < sz) (hs : sz ≤ 24) (t : ¬ (ops i = 17 ∨ ops i = 18 ∨ ops i = 19)) (h : wY_compile_52 post (nI P) (nI S) (nI R) (nI Q) (nI sz) (nI d) (nI rc) (nI ci) (nI co) (nI st) (nI pc) ops args stk ret yi yo n (nI (i + 1))) : wY_compile_52 post (nI P) (nI S) (nI R) (nI Q) (nI sz) (nI d) (nI rc) (nI ci) (nI co) (nI st) (nI pc) ops args stk ret yi yo (n + 1) (nI i) := by
  have ci' : (nI i).toNatClampNeg = i := nI_clamp (by omega)
  have vi : vp_in (nI i) 24 := vp_in_nI (by omega) (by omega)
  have t2 : ¬ (ops (nI i).toNatClampNeg = 17 ∨ ops (nI i).toNatClampNeg = 18 ∨ ops (nI i).toNatClampNeg = 19) := by rw [ci']; exact t
  exact br_f (nI_ge hi (by omega)) ⟨vi, br_f (fun e => t2 (Or.inl e)) ⟨vi, br_f (fun e => t2 (Or.inr (Or.inl e))) ⟨vi, br_f (fun e => t2 (Or.inr (Or.inr e))) (br_t rfl (nm_r (nI_1 i) h))⟩⟩⟩
theorem sc_scan (hs : sz ≤ 24) : ∀ m i, i + m = sz → sc_T sz i ops args →
    (sc_T sz sz ops args ∧ (∀ post : Int32 → Prop, post 1 → wX_targetsAreInside_2 post (nI P) (nI S) (nI R) (nI Q) (nI st) (nI pc) (nI sz) (nI d) (nI rc) (nI fi) (nI ci) (nI fo) (nI co) ops args stk ret xi xo (m + 1) (nI i)) ∧ (∀ post : Int32 → SY → Prop, post 1 (nI P, nI S, nI R, nI Q, nI sz, nI 0, nI 0, nI ci, nI co, nI 1, nI 0, ops, args, stk, ret, yi, yo) → wY_compile_52 post (nI P) (nI S) (nI R) (nI Q) (nI sz) (nI d) (nI rc) (nI ci) (nI co) (nI st) (nI pc) ops args stk ret yi yo (m + 1) (nI i)))
    ∨ ((∀ post : Int32 → Prop, post 0 → wX_targetsAreInside_2 post (nI P) (nI S) (nI R) (nI Q) (nI st) (nI pc) (nI sz) (nI d) (nI rc) (nI fi) (nI ci) (nI fo) (nI co) ops args stk ret xi xo (m + 1) (nI i)) ∧ (∀ post : Int32 → SY → Prop, post (-4) (nI P, nI S, nI R, nI Q, nI sz, nI d, nI rc, nI ci, nI co, nI st, nI pc, ops, args, stk, ret, yi, yo) → wY_compile_52 post (nI P) (nI S) (nI R) (nI Q) (nI sz) (nI d) (nI rc) (nI ci) (nI co) (nI st) (nI pc) ops args stk ret yi yo (m + 1) (nI i))) := by
  intro m
  induction m with
  | zero =>
    intro i hi hT
    obtain rfl : i = sz := by omega
    have hl : nI i ≤ nI i := nI_le (Nat.le_refl _) (by omega)
    exact Or.inl ⟨hT, fun post h => br_t hl h, fun post h => br_t hl h⟩
  | succ m ih =>
    intro i hi hT
    have hi2 : i < sz := by omega
    have ci' : (nI i).toNatClampNeg = i := nI_clamp (by omega)
    have vi : vp_in (nI i) 24 := vp_in_nI (by omega) (by omega)
    by_cases t : ops i = 17 ∨ ops i = 18 ∨ ops i = 19
    · rcases pk_ix (args i) (n := sz) (by omega) with c | c | ⟨j, hj, c⟩
      · have c2 : args (nI i).toNatClampNeg < 0 := by rw [ci']; exact c
        exact Or.inr ⟨fun post h => sx_tt post hi2 hs t (br_f (by decide) ⟨vi, br_t c2 h⟩), fun post h => sy_tt post hi2 hs t (br_f (by decide) ⟨vi, br_t c2 h⟩)⟩
      · have c1 : ¬ args (nI i).toNatClampNeg < 0 := by rw [ci']; exact Int32.not_lt.mpr (Int32.le_trans (nI_pos' (by omega)) c)
        have c2 : ¬ args (nI i).toNatClampNeg < nI sz := by rw [ci']; exact Int32.not_lt.mpr c
        exact Or.inr ⟨fun post h => sx_tt post hi2 hs t (br_f (by decide) ⟨vi, br_f c1 ⟨vi, br_f c2 h⟩⟩), fun post h => sy_tt post hi2 hs t (br_f (by decide) ⟨vi, br_f c1 ⟨vi, br_f c2 h⟩⟩)⟩
      · have c1 : ¬ args (nI i).toNatClampNeg < 0 := by rw [ci', c]; exact nI_pos (by omega)
        have c2 : args (nI i).toNatClampNeg < nI sz := by rw [ci', c]; exact nI_lt hj (by omega)
        have hT2 : sc_T sz (i + 1) ops args := fun a ha ta => by
          by_cases e : a = i
          · exact ⟨j, hj, by rw [e]; exact c⟩
          · exact hT a (by omega) ta
        rcases ih (i + 1) (by omega) hT2 with ⟨g, hx, hy⟩ | ⟨hx, hy⟩
        · exact Or.inl ⟨g, fun post h => sx_tt post hi2 hs t (br_f (by decide) ⟨vi, br_f c1 ⟨vi, br_t c2 (nm_r (nI_1 i) (hx post h))⟩⟩), fun post h => sy_tt post hi2 hs t (br_f (by decide) ⟨vi, br_f c1 ⟨vi, br_t c2 (nm_r (nI_1 i) (hy post h))⟩⟩)⟩
        · exact Or.inr ⟨fun post h => sx_tt post hi2 hs t (br_f (by decide) ⟨vi, br_f c1 ⟨vi, br_t c2 (nm_r (nI_1 i) (hx post h))⟩⟩), fun post h => sy_tt post hi2 hs t (br_f (by decide) ⟨vi, br_f c1 ⟨vi, br_t c2 (nm_r (nI_1 i) (hy post h))⟩⟩)⟩
    · have hT2 : sc_T sz (i + 1) ops args := fun a ha ta => by
        by_cases e : a = i
        · exact absurd (e ▸ ta) t
        · exact hT a (by omega) ta
      rcases ih (i + 1) (by omega) hT2 with ⟨g, hx, hy⟩ | ⟨hx, hy⟩
      · exact Or.inl ⟨g, fun post h => sx_tn post hi2 hs t (hx post h), fun post h => sy_tn post hi2 hs t (hy post h)⟩
      · exact Or.inr ⟨fun post h => sx_tn post hi2 hs t (hx post h), fun post h => sy_tn post hi2 hs t (hy post h)⟩
theorem sc_ends (hs : sz ≤ 24) (h0 : 0 < sz) (hE : sc_E sz ops) (post : Int32 → Prop) (h : post 1) : wpX_endsWell post (nI P, nI S, nI R, nI Q, nI st, nI pc, nI sz, nI d, nI rc, nI fi, nI ci, nI fo, nI co, ops, args, stk, ret, xi, xo) := by
  unfold wpX_endsWell
  have e : nI sz - 1 = nI (sz - 1) := sc_m1 h0
  refine ⟨by rw [e]; exact vp_in_nI (by omega) (by omega), nm_r (e' := ops (sz - 1)) (by rw [e, nI_clamp (by omega)]) (br_c (fun _ => h) (fun n1 => br_c (fun _ => h) (fun n2 => br_c (fun _ => h) (fun n3 => absurd hE ?_))))⟩
  rw [sc_E]
  simp [n1, n2, n3]
theorem sc_endn (hs : sz ≤ 24) (h0 : 0 < sz) (hE : ¬ sc_E sz ops) (post : Int32 → Prop) (h : post 0) : wpX_endsWell post (nI P, nI S, nI R, nI Q, nI st, nI pc, nI sz, nI d, nI rc, nI fi, nI ci, nI fo, nI co, ops, args, stk, ret, xi, xo) := by
  unfold wpX_endsWell
  have e : nI sz - 1 = nI (sz - 1) := sc_m1 h0
  exact ⟨by rw [e]; exact vp_in_nI (by omega) (by omega), nm_r (e' := ops (sz - 1)) (by rw [e, nI_clamp (by omega)]) (br_f (fun z => hE (Or.inl z)) (br_f (fun z => hE (Or.inr (Or.inl z))) (br_f (fun z => hE (Or.inr (Or.inr z))) h)))⟩
theorem i_vc_compile {k : Nat} {u : SX} {v : SY} (I : i_Rel k u v) (hk : k + 3 ≤ 1540) : wpX_compile (fun r u' => wpY_compile (fun r' v' => r' = r ∧ i_Rel (k + 3) u' v') v) u := by
  obtain ⟨st, pc, P, S, R, Q, sz, d, rc, fi, ci, fo, co, ops, args, stk, ret, xi, xo, yi, yo, rfl, rfl, I⟩ := I
  have I0 := I
  obtain ⟨hb, hRi, hRo, hO, hr⟩ := I0
  unfold wpX_compile
  by_cases c0 : st = 0
  · subst c0
    by_cases hz : sz = 0
    · subst hz
      exact br_t rfl (br_t rfl (br_t rfl (br_t rfl ⟨rfl, sc_rel _ I⟩)))
    · have z1 : ¬ nI sz = 0 := sc_ne (b := 0) (by omega) (by omega) hz
      have e : nI sz - 1 = nI (sz - 1) := sc_m1 (by omega)
      have vi : vp_in (nI sz - 1) 24 := by rw [e]; exact vp_in_nI (by omega) (by omega)
      have eo : ops (nI sz - 1).toNatClampNeg = ops (sz - 1) := by rw [e, nI_clamp (by omega)]
      refine br_t rfl (br_f z1 ?_)
      by_cases hE : sc_E sz ops
      · refine sc_ends (by omega) (by omega) hE _ (br_f (by decide) ?_)
        unfold wpX_targetsAreInside
        have Y1 : ∀ post : Int32 → SY → Prop, (∃ n52 : Nat, wY_compile_52 post (nI P) (nI S) (nI R) (nI Q) (nI sz) (nI d) (nI rc) (nI ci) (nI co) (nI 0) (nI pc) ops args stk ret yi yo n52 0) → wpY_compile post (nI P, nI S, nI R, nI Q, nI sz, nI d, nI rc, nI ci, nI co, nI 0, nI pc, ops, args, stk, ret, yi, yo) := fun post h => br_t rfl (br_f z1 ⟨vi, nm_r eo (br_c (fun _ => h) (fun n1 => br_c (fun _ => h) (fun n2 => br_c (fun _ => h) (fun n3 => absurd hE (by rw [sc_E]; simp [n1, n2, n3])))))⟩)
        rcases sc_scan (P := P) (S := S) (R := R) (Q := Q) (st := 0) (pc := pc) (d := d) (rc := rc) (fi := fi) (ci := ci) (fo := fo) (co := co) (stk := stk) (ret := ret) (xi := xi) (xo := xo) (yi := yi) (yo := yo) (sz := sz) (ops := ops) (args := args) (by omega) sz 0 (by omega) (fun i h => absurd h (Nat.not_lt_zero i)) with ⟨g, hx, hy⟩ | ⟨hx, hy⟩
        · refine ⟨sz + 1, hx _ (br_f (by decide) ?_)⟩
          unfold wpX_restart
          refine Y1 _ ⟨sz + 1, hy _ ⟨rfl, ?_⟩⟩
          exact sc_rel (st := 1) (pc := 0) (d := 0) (rc := 0) _ ⟨by omega, hRi, hRo, hO, fun _ => ⟨by omega, hE, g, sc_Q_0⟩⟩
        · exact ⟨sz + 1, hx _ (br_t rfl (Y1 _ ⟨sz + 1, hy _ ⟨rfl, sc_rel _ I⟩⟩))⟩
      · refine sc_endn (by omega) (by omega) hE _ (br_t rfl ?_)
        exact br_t rfl (br_f z1 ⟨vi, nm_r eo (br_f (fun z => hE (Or.inl z)) (br_f (fun z => hE (Or.inr (Or.inl z))) (br_f (fun z => hE (Or.inr (Or.inr z))) ⟨rfl, sc_rel _ I⟩)))⟩)
  · have n0 : ¬ nI st = 0 := sc_ne (b := 0) (by omega) (by omega) c0
    exact br_f n0 (br_f n0 ⟨rfl, sc_rel _ I⟩)
/-! count and view -/
def sc_A (v1 : Int32) (n sz d rc ci co : Nat) : Prop := (v1 = 0 ∧ n = d) ∨ (v1 = 1 ∧ n = rc) ∨ (v1 = 2 ∧ n = ci) ∨ (v1 = 3 ∧ n = co) ∨ (v1 = 4 ∧ n = sz) ∨ (v1 = 5 ∧ n = sz) ∨ n = 0
theorem sc_cnt (hb : sz ≤ 24 ∧ d ≤ 32 ∧ rc ≤ 8 ∧ ci ≤ 8 ∧ co ≤ 8) (v1 : Int32) : ∃ n, n ≤ 32 ∧ sc_A v1 n sz d rc ci co ∧ (∀ post : Int32 → Prop, post (nI n) → wpX_count post (nI P, nI S, nI R, nI Q, nI st, nI pc, nI sz, nI d, nI rc, nI fi, nI ci, nI fo, nI co, ops, args, stk, ret, xi, xo) v1) ∧ (∀ post : Int32 → Prop, post (nI n) → wpY_count post (nI P, nI S, nI R, nI Q, nI sz, nI d, nI rc, nI ci, nI co, nI st, nI pc, ops, args, stk, ret, yi, yo) v1) := by
  by_cases h0 : v1 < 0
  · have ne : ∀ x : Int32, ¬ x < 0 → ¬ v1 = x := fun x hx e => hx (e ▸ h0)
    exact ⟨0, by omega, Or.inr (Or.inr (Or.inr (Or.inr (Or.inr (Or.inr rfl))))), fun post h => br_t h0 h, fun post h => br_f (ne 0 (by decide)) (br_f (ne 1 (by decide)) (br_f (ne 2 (by decide)) (br_f (ne 3 (by decide)) (br_f (ne 4 (by decide)) (br_f (ne 5 (by decide)) h)))))⟩
  · obtain ⟨j, hj, rfl⟩ := nI_of h0
    by_cases h6 : j < 6
    · match j, h6 with
      | 0, _ => exact ⟨d, by omega, Or.inl ⟨rfl, rfl⟩, fun post h => br_f (by decide) (br_f (by decide) (br_t rfl h)), fun post h => br_t rfl h⟩
      | 1, _ => exact ⟨rc, by omega, Or.inr (Or.inl ⟨rfl, rfl⟩), fun post h => br_f (by decide) (br_f (by decide) (br_f (by decide) (br_t rfl h))), fun post h => br_f (by decide) (br_t rfl h)⟩
      | 2, _ => exact ⟨ci, by omega, Or.inr (Or.inr (Or.inl ⟨rfl, rfl⟩)), fun post h => br_f (by decide) (br_f (by decide) (br_f (by decide) (br_f (by decide) (br_t rfl h)))), fun post h => br_f (by decide) (br_f (by decide) (br_t rfl h))⟩
      | 3, _ => exact ⟨co, by omega, Or.inr (Or.inr (Or.inr (Or.inl ⟨rfl, rfl⟩))), fun post h => br_f (by decide) (br_f (by decide) (br_f (by decide) (br_f (by decide) (br_f (by decide) (br_t rfl h))))), fun post h => br_f (by decide) (br_f (by decide) (br_f (by decide) (br_t rfl h)))⟩
      | 4, _ => exact ⟨sz, by omega, Or.inr (Or.inr (Or.inr (Or.inr (Or.inl ⟨rfl, rfl⟩)))), fun post h => br_f (by decide) (br_f (by decide) (br_f (by decide) (br_f (by decide) (br_f (by decide) (br_f (by decide) (br_t rfl h)))))), fun post h => br_f (by decide) (br_f (by decide) (br_f (by decide) (br_f (by decide) (br_t rfl h))))⟩
      | 5, _ => exact ⟨sz, by omega, Or.inr (Or.inr (Or.inr (Or.inr (Or.inr (Or.inl ⟨rfl, rfl⟩))))), fun post h => br_f (by decide) (br_f (by decide) (br_f (by decide) (br_f (by decide) (br_f (by decide) (br_f (by decide) (br_f (by decide) (br_t rfl h))))))), fun post h => br_f (by decide) (br_f (by decide) (br_f (by decide) (br_f (by decide) (br_f (by decide) (br_t rfl h)))))⟩
    · have h5 : (5 : Int32) < nI j := nI_lt (a := 5) (by omega) hj
      have ne : ∀ x : Nat, x < 6 → ¬ nI j = nI x := fun x hx => sc_ne hj (by omega) (by omega)
      exact ⟨0, by omega, Or.inr (Or.inr (Or.inr (Or.inr (Or.inr (Or.inr rfl))))), fun post h => br_f h0 (br_t h5 h), fun post h => br_f (ne 0 (by decide)) (br_f (ne 1 (by decide)) (br_f (ne 2 (by decide)) (br_f (ne 3 (by decide)) (br_f (ne 4 (by decide)) (br_f (ne 5 (by decide)) h)))))⟩
theorem i_vc_count {k : Nat} {u : SX} {v : SY} (I : i_Rel k u v) (hk : k + 3 ≤ 1540) (v1 : Int32) : wpX_count (fun r => wpY_count (fun r' => r' = r ∧ i_Rel (k + 3) u v) v v1) u v1 := by
  obtain ⟨st, pc, P, S, R, Q, sz, d, rc, fi, ci, fo, co, ops, args, stk, ret, xi, xo, yi, yo, rfl, rfl, I⟩ := I
  have I0 := I
  obtain ⟨hb, hRi, hRo, hO, hr⟩ := I0
  obtain ⟨n, _, _, hx, hy⟩ := sc_cnt (sz := sz) (d := d) (rc := rc) (ci := ci) (co := co) (by omega) v1
  refine hx _ ?_
  refine hy _ ?_
  exact ⟨rfl, sc_rel _ I⟩
theorem i_vc_view {k : Nat} {u : SX} {v : SY} (I : i_Rel k u v) (hk : k + 3 ≤ 1540) (v1 : Int32) (v2 : Int32) : wpX_view (fun r => wpY_view (fun r' => r' = r ∧ i_Rel (k + 3) u v) v v1 v2) u v1 v2 := by
  obtain ⟨st, pc, P, S, R, Q, sz, d, rc, fi, ci, fo, co, ops, args, stk, ret, xi, xo, yi, yo, rfl, rfl, I⟩ := I
  have I0 := I
  obtain ⟨hb, hRi, hRo, hO, hr⟩ := I0
  have F := sc_rel (stk := stk) (k + 3) I
  obtain ⟨n, hn, hA, hx, hy⟩ := sc_cnt (P := P) (S := S) (R := R) (Q := Q) (st := st) (pc := pc) (fi := fi) (fo := fo) (ops := ops) (args := args) (stk := stk) (ret := ret) (xi := xi) (xo := xo) (yi := yi) (yo := yo) (sz := sz) (d := d) (rc := rc) (ci := ci) (co := co) (by omega) v1
  have Y1 : ∀ post : Int32 → Prop, ((v2 < 0 → post 0) ∧ (¬ v2 < 0 → ((v2 < nI n → ((v1 = 0 → (vp_in ((nI d - 1) - v2) 32 ∧ post (stk ((nI d - 1) - v2).toNatClampNeg))) ∧ (¬ v1 = 0 → ((v1 = 1 → (vp_in ((nI rc - 1) - v2) 8 ∧ post (ret ((nI rc - 1) - v2).toNatClampNeg))) ∧ (¬ v1 = 1 → ((v1 = 2 → (vp_in v2 8 ∧ post (yi v2.toNatClampNeg))) ∧ (¬ v1 = 2 → ((v1 = 3 → (vp_in v2 8 ∧ post (yo v2.toNatClampNeg))) ∧ (¬ v1 = 3 → ((v1 = 4 → (vp_in v2 24 ∧ post (ops v2.toNatClampNeg))) ∧ (¬ v1 = 4 → (vp_in v2 24 ∧ post (args v2.toNatClampNeg))))))))))))) ∧ (¬ v2 < nI n → post 0)))) → wpY_view post (nI P, nI S, nI R, nI Q, nI sz, nI d, nI rc, nI ci, nI co, nI st, nI pc, ops, args, stk, ret, yi, yo) v1 v2 := fun post h => by
    unfold wpY_view
    exact hy _ h
  unfold wpX_view
  by_cases h0 : v2 < 0
  · exact br_t h0 (Y1 _ (br_t h0 ⟨rfl, F⟩))
  · obtain ⟨i, hi, rfl⟩ := nI_of h0
    refine br_f h0 ?_
    refine hx _ ?_
    by_cases hin : i < n
    · have l : nI i < nI n := nI_lt hin (by omega)
      have ci' : (nI i).toNatClampNeg = i := nI_clamp hi
      refine br_t l ?_
      rcases hA with ⟨rfl, rfl⟩ | ⟨rfl, rfl⟩ | ⟨rfl, rfl⟩ | ⟨rfl, rfl⟩ | ⟨rfl, rfl⟩ | ⟨rfl, rfl⟩ | rfl
      · have e : (nI n - 1) - nI i = nI (n - 1 - i) := by rw [sc_m1 (by omega), pk_sub (by omega)]
        have vi : vp_in ((nI n - 1) - nI i) 32 := by rw [e]; exact vp_in_nI (by omega) (by omega)
        exact br_f (by decide) (br_f (by decide) (br_t rfl ⟨vi, Y1 _ (br_f h0 (br_t l (br_t rfl ⟨vi, rfl, F⟩)))⟩))
      · have e : (nI n - 1) - nI i = nI (n - 1 - i) := by rw [sc_m1 (by omega), pk_sub (by omega)]
        have vi : vp_in ((nI n - 1) - nI i) 8 := by rw [e]; exact vp_in_nI (by omega) (by omega)
        exact br_f (by decide) (br_f (by decide) (br_f (by decide) (br_t rfl ⟨vi, Y1 _ (br_f h0 (br_t l (br_f (by decide) (br_t rfl ⟨vi, rfl, F⟩))))⟩)))
      · refine br_f (by decide) (br_f (by decide) (br_f (by decide) (br_f (by decide) (br_t rfl ?_))))
        refine sx_ring _ (by omega) ?_
        refine ⟨vp_in_nI (Nat.mod_lt _ (by decide)) (by omega), ?_⟩
        have er : xi (nI ((fi + i) % 8)).toNatClampNeg = yi (nI i).toNatClampNeg := by rw [ci', nI_clamp (by omega)]; exact (hRi i hin).symm
        rw [er]
        exact Y1 _ (br_f h0 (br_t l (br_f (by decide) (br_f (by decide) (br_t rfl ⟨vp_in_nI (by omega) (by omega), rfl, F⟩)))))
      · refine br_f (by decide) (br_f (by decide) (br_f (by decide) (br_f (by decide) (br_f (by decide) (br_t rfl ?_)))))
        refine sx_ring _ (by omega) ?_
        refine ⟨vp_in_nI (Nat.mod_lt _ (by decide)) (by omega), ?_⟩
        have er : xo (nI ((fo + i) % 8)).toNatClampNeg = yo (nI i).toNatClampNeg := by rw [ci', nI_clamp (by omega)]; exact (hRo i hin).symm
        rw [er]
        exact Y1 _ (br_f h0 (br_t l (br_f (by decide) (br_f (by decide) (br_f (by decide) (br_t rfl ⟨vp_in_nI (by omega) (by omega), rfl, F⟩))))))
      · have vi : vp_in (nI i) 24 := vp_in_nI (by omega) (by omega)
        exact br_f (by decide) (br_f (by decide) (br_f (by decide) (br_f (by decide) (br_f (by decide) (br_f (by decide) (br_t rfl ⟨vi, Y1 _ (br_f h0 (br_t l (br_f (by decide) (br_f (by decide) (br_f (by decide) (br_f (by decide) (br_t rfl ⟨vi, rfl, F⟩)))))))⟩))))))
      · have vi : vp_in (nI i) 24 := vp_in_nI (by omega) (by omega)
        exact br_f (by decide) (br_f (by decide) (br_f (by decide) (br_f (by decide) (br_f (by decide) (br_f (by decide) (br_f (by decide) (br_t rfl ⟨vi, Y1 _ (br_f h0 (br_t l (br_f (by decide) (br_f (by decide) (br_f (by decide) (br_f (by decide) (br_f (by decide) ⟨vi, rfl, F⟩)))))))⟩)))))))
      · exact absurd hin (Nat.not_lt_zero i)
    · have l : ¬ nI i < nI n := nI_nlt (by omega) hi
      exact br_f l (Y1 _ (br_f h0 (br_f l ⟨rfl, F⟩)))
end SCD
end
