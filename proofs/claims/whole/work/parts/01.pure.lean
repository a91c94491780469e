/-! numbers -/
theorem pk_us {f : Nat → Int32} {k : Nat} {x : Int32} : upd f k x k = x := if_pos rfl
theorem pk_un {f : Nat → Int32} {k j : Nat} {x : Int32} (h : j ≠ k) : upd f k x j = f j := if_neg h
theorem pk_sub {a b : Nat} (h : b ≤ a) : nI a - nI b = nI (a - b) := by
  obtain ⟨c, rfl⟩ : ∃ c, a = c + b := ⟨a - b, by omega⟩
  rw [← nI_add, Int32.add_sub_cancel, Nat.add_sub_cancel]
theorem pk_m1 (n : Nat) : nI (n + 1) + (-1) = nI n := by
  rw [← nI_1, Int32.add_assoc, show (1 : Int32) + (-1) = 0 from rfl, Int32.add_zero]
theorem pk_mul (a b : Nat) : nI a * nI b = nI (a * b) := (Int32.ofNat_mul a b).symm
theorem pk_div {a d : Nat} (ha : a < 2 ^ 31) (h0 : 0 < d) (hd : d < 2 ^ 31) : nI a / nI d = nI (a / d) := by
  apply Int32.toInt_inj.mp
  rw [lg_idiv_nonneg (by rw [nI_toInt ha]; omega) (by rw [nI_toInt hd]; omega), nI_toInt ha, nI_toInt hd, nI_toInt (Nat.lt_of_le_of_lt (Nat.div_le_self a d) ha)]
  first | rfl | exact (Int.natCast_ediv _ _).symm
theorem pk_rem {a d : Nat} (ha : a < 2 ^ 31) (h0 : 0 < d) (hd : d < 2 ^ 31) : nI a - nI a / nI d * nI d = nI (a % d) := by
  rw [pk_div ha h0 hd, pk_mul, pk_sub (Nat.div_mul_le_self a d)]
  exact congrArg nI (by have := Nat.div_add_mod' a d; omega)
theorem pk_ix (x : Int32) {n : Nat} (hn : n < 2 ^ 31) : x < 0 ∨ nI n ≤ x ∨ ∃ j : Nat, j < n ∧ x = nI j := by
  by_cases h : x < 0
  · exact Or.inl h
  · obtain ⟨j, hj, rfl⟩ := nI_of h
    by_cases h2 : j < n
    · exact Or.inr (Or.inr ⟨j, h2, rfl⟩)
    · exact Or.inr (Or.inl (nI_le (by omega) hj))
theorem pk_le {x y : Int32} {A B : Prop} (a b : Nat) (f : a ≤ b → A) (g : b < a → B) (hx : x = nI a := by rfl) (hy : y = nI b := by rfl) (ha : a < 2 ^ 31 := by omega) (hb : b < 2 ^ 31 := by omega) : (x ≤ y → A) ∧ (¬ x ≤ y → B) := by
  subst hx hy
  rw [nI_leI ha hb]
  exact ⟨f, fun z => g (by omega)⟩
theorem pk_lt {x y : Int32} {A B : Prop} (a b : Nat) (f : a < b → A) (g : b ≤ a → B) (hx : x = nI a := by rfl) (hy : y = nI b := by rfl) (ha : a < 2 ^ 31 := by omega) (hb : b < 2 ^ 31 := by omega) : (x < y → A) ∧ (¬ x < y → B) := by
  subst hx hy
  rw [nI_ltI ha hb]
  exact ⟨f, fun z => g (by omega)⟩
theorem pk_eq {x y : Int32} {A B : Prop} (a b : Nat) (f : a = b → A) (g : a ≠ b → B) (hx : x = nI a := by rfl) (hy : y = nI b := by rfl) (ha : a < 2 ^ 31 := by omega) (hb : b < 2 ^ 31 := by omega) : (x = y → A) ∧ (¬ x = y → B) := by
  subst hx hy
  rw [nI_eq ha hb]
  exact ⟨f, g⟩
theorem pk_in {x : Int32} (n N : Nat) (h : n < N) (hx : x = nI n := by rfl) (hN : N < 2 ^ 31 := by omega) : vp_in x N := by
  subst hx
  exact vp_in_nI h hN
theorem pk_cl {x : Int32} (n : Nat) (hx : x = nI n := by rfl) (h : n < 2 ^ 31 := by omega) : x.toNatClampNeg = n := by
  subst hx
  exact nI_clamp h
theorem sc_pred (n : Nat) : nI (n + 1) - 1 = nI n := nI_pred n
theorem sc_m1 {n : Nat} (h : 0 < n) : nI n - 1 = nI (n - 1) := by
  obtain ⟨m, rfl⟩ : ∃ m, n = m + 1 := ⟨n - 1, by omega⟩
  exact nI_pred m
theorem sc_a1 {n : Nat} (h : 0 < n) : nI n + (-1) = nI (n - 1) := by
  obtain ⟨m, rfl⟩ : ∃ m, n = m + 1 := ⟨n - 1, by omega⟩
  exact pk_m1 m
theorem sc_uid (f : Nat → Int32) (k : Nat) : upd f k (f k) = f := by
  funext j
  by_cases h : j = k
  · rw [h]; exact pk_us
  · exact pk_un h
theorem sc_ofN {x : Int32} {n : Nat} (h : x = nI n) (hn : n < 2 ^ 31) : x.toNatClampNeg = n := by
  rw [h]; exact nI_clamp hn
/-! the rings: a queue of c values whose front lies at f -/
def sc_R (x y : Nat → Int32) (f c : Nat) : Prop := ∀ i, i < c → y i = x ((f + i) % 8)
theorem sc_R_0 {x y : Nat → Int32} {f : Nat} : sc_R x y f 0 := fun i h => absurd h (Nat.not_lt_zero i)
theorem sc_R_put {x y : Nat → Int32} {f c : Nat} {v : Int32} (h : sc_R x y f c) (hc : c < 8) : sc_R (upd x ((f + c) % 8) v) (upd y c v) f (c + 1) := by
  intro i hi
  by_cases e : i = c
  · rw [e, pk_us, pk_us]
  · rw [pk_un e, pk_un (by omega)]
    exact h i (by omega)
theorem sc_R_get {x y y' : Nat → Int32} {f c : Nat} (h : sc_R x y f (c + 1)) (hy : ∀ i, i < c → y' i = y (i + 1)) : sc_R x y' ((f + 1) % 8) c := by
  intro i hi
  rw [hy i hi, h (i + 1) (by omega)]
  exact congrArg x (by omega)
theorem sc_R_front {x y : Nat → Int32} {f c : Nat} (hf : f < 8) (h : sc_R x y f (c + 1)) : y 0 = x f := by
  rw [h 0 (by omega)]
  exact congrArg x (by omega)
/-! a program that compile lets pass -/
def sc_O (n : Nat) (ops : Nat → Int32) : Prop := ∀ i, i < n → ∃ o, o ≤ 20 ∧ ops i = nI o
def sc_T (n m : Nat) (ops args : Nat → Int32) : Prop := ∀ i, i < m → (ops i = 17 ∨ ops i = 18 ∨ ops i = 19) → ∃ t, t < n ∧ args i = nI t
def sc_E (n : Nat) (ops : Nat → Int32) : Prop := ops (n - 1) = 0 ∨ ops (n - 1) = 17 ∨ ops (n - 1) = 20
def sc_Q (n rc : Nat) (ret : Nat → Int32) : Prop := ∀ i, i < rc → ∃ t, t < n ∧ ret i = nI t
theorem sc_O_put {n : Nat} {ops : Nat → Int32} {o : Nat} (h : sc_O n ops) (ho : o ≤ 20) : sc_O (n + 1) (upd ops n (nI o)) := by
  intro i hi
  by_cases e : i = n
  · exact ⟨o, ho, by rw [e]; exact pk_us⟩
  · obtain ⟨p, hp, ep⟩ := h i (by omega)
    exact ⟨p, hp, by rw [pk_un e]; exact ep⟩
theorem sc_O_le {n m : Nat} {ops : Nat → Int32} (h : sc_O n ops) (hm : m ≤ n) : sc_O m ops := fun i hi => h i (by omega)
theorem sc_Q_put {n rc t : Nat} {ret : Nat → Int32} (h : sc_Q n rc ret) (ht : t < n) : sc_Q n (rc + 1) (upd ret rc (nI t)) := by
  intro i hi
  by_cases e : i = rc
  · exact ⟨t, ht, by rw [e]; exact pk_us⟩
  · obtain ⟨p, hp, ep⟩ := h i (by omega)
    exact ⟨p, hp, by rw [pk_un e]; exact ep⟩
theorem sc_Q_le {n m k : Nat} {ret : Nat → Int32} (h : sc_Q n k ret) (hm : m ≤ k) : sc_Q n m ret := fun i hi => h i (by omega)
theorem sc_Q_0 {n : Nat} {ret : Nat → Int32} : sc_Q n 0 ret := fun i h => absurd h (Nat.not_lt_zero i)
theorem sc_nxt {n pc o : Nat} {ops : Nat → Int32} (E : sc_E n ops) (hpc : pc < n) (e : ops pc = nI o) (ho : o ≤ 20) (h0 : o ≠ 0) (h1 : o ≠ 17) (h2 : o ≠ 20) : pc + 1 < n := by
  by_cases c : pc + 1 < n
  · exact c
  · have hp : n - 1 = pc := by omega
    rw [sc_E, hp, e] at E
    rcases E with E | E | E
    · exact absurd ((nI_eq (b := 0) (by omega) (by omega)).mp E) h0
    · exact absurd ((nI_eq (b := 17) (by omega) (by omega)).mp E) h1
    · exact absurd ((nI_eq (b := 20) (by omega) (by omega)).mp E) h2
/-! what an instruction needs, what it adds (by one more), and what hinders it -/
def sc_nd (o : Nat) : Nat := if o = 6 then 3 else if o = 2 ∨ o = 3 ∨ o = 9 ∨ o = 16 ∨ o = 18 then 1 else if o = 4 ∨ o = 5 ∨ o = 7 ∨ o = 8 ∨ (10 ≤ o ∧ o ≤ 14) then 2 else 0
def sc_gr (o : Nat) : Nat := if o = 1 ∨ o = 2 ∨ o = 5 ∨ o = 8 ∨ o = 15 then 2 else if o = 3 ∨ o = 7 ∨ (10 ≤ o ∧ o ≤ 14) ∨ o = 16 ∨ o = 18 then 0 else 1
def sc_gI (o : Nat) : Int32 := if o = 1 ∨ o = 2 ∨ o = 5 ∨ o = 8 ∨ o = 15 then 1 else if o = 3 ∨ o = 7 ∨ (10 ≤ o ∧ o ≤ 14) ∨ o = 16 ∨ o = 18 then -1 else 0
theorem sc_21 {P : Nat → Prop} (h0 : P 0) (h1 : P 1) (h2 : P 2) (h3 : P 3) (h4 : P 4) (h5 : P 5) (h6 : P 6) (h7 : P 7) (h8 : P 8) (h9 : P 9) (h10 : P 10) (h11 : P 11) (h12 : P 12) (h13 : P 13) (h14 : P 14) (h15 : P 15) (h16 : P 16) (h17 : P 17) (h18 : P 18) (h19 : P 19) (h20 : P 20) : ∀ o, o ≤ 20 → P o := by
  intro o ho
  match o, ho with
  | 0, _ => exact h0
  | 1, _ => exact h1
  | 2, _ => exact h2
  | 3, _ => exact h3
  | 4, _ => exact h4
  | 5, _ => exact h5
  | 6, _ => exact h6
  | 7, _ => exact h7
  | 8, _ => exact h8
  | 9, _ => exact h9
  | 10, _ => exact h10
  | 11, _ => exact h11
  | 12, _ => exact h12
  | 13, _ => exact h13
  | 14, _ => exact h14
  | 15, _ => exact h15
  | 16, _ => exact h16
  | 17, _ => exact h17
  | 18, _ => exact h18
  | 19, _ => exact h19
  | 20, _ => exact h20
  | n + 21, h => exact absurd h (by omega)
theorem sc_dg' (d : Nat) : ∀ o, o ≤ 20 → (sc_nd o ≤ d → nI d + sc_gI o = nI (d + sc_gr o - 1)) := by
  refine sc_21 (P := fun o => sc_nd o ≤ d → nI d + sc_gI o = nI (d + sc_gr o - 1)) ?_ ?_ ?_ ?_ ?_ ?_ ?_ ?_ ?_ ?_ ?_ ?_ ?_ ?_ ?_ ?_ ?_ ?_ ?_ ?_ ?_
  · intro h; exact Int32.add_zero _
  · intro h; exact nI_1 d
  · intro h; exact nI_1 d
  · intro h; exact sc_a1 (Nat.lt_of_lt_of_le (by decide) h)
  · intro h; exact Int32.add_zero _
  · intro h; exact nI_1 d
  · intro h; exact Int32.add_zero _
  · intro h; exact sc_a1 (Nat.lt_of_lt_of_le (by decide) h)
  · intro h; exact nI_1 d
  · intro h; exact Int32.add_zero _
  · intro h; exact sc_a1 (Nat.lt_of_lt_of_le (by decide) h)
  · intro h; exact sc_a1 (Nat.lt_of_lt_of_le (by decide) h)
  · intro h; exact sc_a1 (Nat.lt_of_lt_of_le (by decide) h)
  · intro h; exact sc_a1 (Nat.lt_of_lt_of_le (by decide) h)
  · intro h; exact sc_a1 (Nat.lt_of_lt_of_le (by decide) h)
  · intro h; exact nI_1 d
  · intro h; exact sc_a1 (Nat.lt_of_lt_of_le (by decide) h)
  · intro h; exact Int32.add_zero _
  · intro h; exact sc_a1 (Nat.lt_of_lt_of_le (by decide) h)
  · intro h; exact Int32.add_zero _
  · intro h; exact Int32.add_zero _
theorem sc_dg {o d : Nat} (ho : o ≤ 20) (h : sc_nd o ≤ d) : nI d + sc_gI o = nI (d + sc_gr o - 1) := sc_dg' d o ho h
def sc_hin (o d S rc R ci co Q : Nat) : Nat := if d < sc_nd o then 3 else if S < d + sc_gr o - 1 then 4 else if o = 19 ∧ R ≤ rc then 6 else if o = 20 ∧ rc = 0 then 5 else if o = 15 ∧ ci = 0 then 7 else if o = 16 ∧ Q ≤ co then 8 else 1
theorem sc_s2 (d : Nat) : nI (d + 2) - 2 = nI d := (pk_sub (a := d + 2) (b := 2) (by omega)).trans (congrArg nI (by omega))
theorem sc_s3 (d : Nat) : nI (d + 3) - 3 = nI d := (pk_sub (a := d + 3) (b := 3) (by omega)).trans (congrArg nI (by omega))
theorem sc_p2 (d : Nat) : nI d + 2 = nI (d + 2) := nI_add d 2
/-! the queue of the reference, moved on by one, as far as i -/
def sc_sh (y : Nat → Int32) (i : Nat) : Nat → Int32 := fun j => if j < i then y (j + 1) else y j
theorem sc_sh_0 (y : Nat → Int32) : sc_sh y 0 = y := by
  funext j
  exact if_neg (Nat.not_lt_zero j)
theorem sc_sh_s (y : Nat → Int32) (i : Nat) : upd (sc_sh y i) i (sc_sh y i (i + 1)) = sc_sh y (i + 1) := by
  funext j
  by_cases h : j = i
  · rw [h, pk_us]
    show (if i + 1 < i then y (i + 1 + 1) else y (i + 1)) = if i < i + 1 then y (i + 1) else y i
    rw [if_neg (by omega), if_pos (by omega)]
  · rw [pk_un h]
    show (if j < i then y (j + 1) else y j) = if j < i + 1 then y (j + 1) else y j
    by_cases h2 : j < i
    · rw [if_pos h2, if_pos (by omega)]
    · rw [if_neg h2, if_neg (by omega)]
