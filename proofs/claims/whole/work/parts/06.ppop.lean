/-! PURE 3: Long.bitCount counts bits -/
def bp_v : List Nat → Nat
  | [] => 0
  | b :: bs => b + 256 * bp_v bs
def bp_k (c : Nat) : Nat → Nat
  | 0 => 0
  | n + 1 => c + 256 * bp_k c n
theorem bp_and {a b m M h : Nat} (ha : a < 256) (hm : m < 256) (e : a &&& m = b) : (a + 256 * h) &&& (m + 256 * M) = b + 256 * (h &&& M) := by
  have h1 : ((a + 256 * h) &&& (m + 256 * M)) % 2 ^ 8 = b := by
    rw [Nat.and_mod_two_pow]
    have e1 : (a + 256 * h) % 2 ^ 8 = a := by omega
    have e2 : (m + 256 * M) % 2 ^ 8 = m := by omega
    rw [e1, e2, e]
  have h2 : ((a + 256 * h) &&& (m + 256 * M)) / 2 ^ 8 = h &&& M := by
    rw [Nat.and_div_two_pow]
    have e1 : (a + 256 * h) / 2 ^ 8 = h := by omega
    have e2 : (m + 256 * M) / 2 ^ 8 = M := by omega
    rw [e1, e2]
  omega
theorem bp_b1 : ∀ t, t < 2 → ∀ b, b < 256 → (b / 2 + 128 * t) &&& 85 = (b / 2) &&& 85 := by decide +kernel
theorem bp_b2 : ∀ t, t < 4 → ∀ b, b < 256 → (b / 4 + 64 * t) &&& 51 = (b / 4) &&& 51 := by decide +kernel
def bp_f1 (b : Nat) : Nat := b - ((b / 2) &&& 85)
def bp_f2 (b : Nat) : Nat := (b &&& 51) + ((b / 4) &&& 51)
def bp_f3 (b : Nat) : Nat := (b + b / 16) &&& 15
theorem bp_s1 : ∀ l : List Nat, (∀ b ∈ l, b < 256) → ((bp_v l / 2) &&& bp_k 85 l.length) = bp_v (l.map fun b => (b / 2) &&& 85) := by
  intro l
  induction l with
  | nil => intro _; rfl
  | cons b l ih =>
    intro h
    have hb := h b List.mem_cons_self
    have e : bp_v (b :: l) / 2 = (b / 2 + 128 * (bp_v l % 2)) + 256 * (bp_v l / 2) := by show (b + 256 * bp_v l) / 2 = _; omega
    rw [e]
    show _ &&& (85 + 256 * bp_k 85 l.length) = ((b / 2) &&& 85) + 256 * bp_v (l.map fun b => (b / 2) &&& 85)
    rw [bp_and (by omega) (by omega) (bp_b1 _ (Nat.mod_lt _ (by omega)) b hb), ih (fun c hc => h c (List.mem_cons_of_mem _ hc))]
theorem bp_s2 : ∀ l : List Nat, (∀ b ∈ l, b < 256) → ((bp_v l / 4) &&& bp_k 51 l.length) = bp_v (l.map fun b => (b / 4) &&& 51) := by
  intro l
  induction l with
  | nil => intro _; rfl
  | cons b l ih =>
    intro h
    have hb := h b List.mem_cons_self
    have e : bp_v (b :: l) / 4 = (b / 4 + 64 * (bp_v l % 4)) + 256 * (bp_v l / 4) := by show (b + 256 * bp_v l) / 4 = _; omega
    rw [e]
    show _ &&& (51 + 256 * bp_k 51 l.length) = ((b / 4) &&& 51) + 256 * bp_v (l.map fun b => (b / 4) &&& 51)
    rw [bp_and (by omega) (by omega) (bp_b2 _ (Nat.mod_lt _ (by omega)) b hb), ih (fun c hc => h c (List.mem_cons_of_mem _ hc))]
theorem bp_s2' : ∀ l : List Nat, (∀ b ∈ l, b < 256) → (bp_v l &&& bp_k 51 l.length) = bp_v (l.map fun b => b &&& 51) := by
  intro l
  induction l with
  | nil => intro _; rfl
  | cons b l ih =>
    intro h
    show (b + 256 * bp_v l) &&& (51 + 256 * bp_k 51 l.length) = (b &&& 51) + 256 * bp_v (l.map fun b => b &&& 51)
    rw [bp_and (h b List.mem_cons_self) (by omega) rfl, ih (fun c hc => h c (List.mem_cons_of_mem _ hc))]
theorem bp_sub : ∀ (l : List Nat) (f g : Nat → Nat), (∀ b ∈ l, g b ≤ f b) → bp_v (l.map f) - bp_v (l.map g) = bp_v (l.map fun b => f b - g b) ∧ bp_v (l.map g) ≤ bp_v (l.map f) := by
  intro l f g
  induction l with
  | nil => intro _; exact ⟨rfl, Nat.le_refl 0⟩
  | cons b l ih =>
    intro h
    obtain ⟨i1, i2⟩ := ih (fun c hc => h c (List.mem_cons_of_mem _ hc))
    have hb := h b List.mem_cons_self
    show (f b + 256 * bp_v (l.map f)) - (g b + 256 * bp_v (l.map g)) = (f b - g b) + 256 * bp_v (l.map fun b => f b - g b) ∧ g b + 256 * bp_v (l.map g) ≤ f b + 256 * bp_v (l.map f)
    rw [← i1]
    omega
theorem bp_add : ∀ (l : List Nat) (f g : Nat → Nat), bp_v (l.map f) + bp_v (l.map g) = bp_v (l.map fun b => f b + g b) := by
  intro l f g
  induction l with
  | nil => rfl
  | cons b l ih =>
    show (f b + 256 * bp_v (l.map f)) + (g b + 256 * bp_v (l.map g)) = (f b + g b) + 256 * bp_v (l.map fun b => f b + g b)
    rw [← ih]; omega
theorem bp_b3 : ∀ t, t < 5 → ∀ b, b < 69 → (16 * t + (b + b / 16)) &&& 15 = (b + b / 16) &&& 15 := by decide +kernel
theorem bp_s3 : ∀ l : List Nat, (∀ b ∈ l, b < 69 ∧ b % 16 < 5) → ((bp_v l + bp_v l / 16) &&& bp_k 15 l.length) = bp_v (l.map bp_f3) := by
  intro l
  induction l with
  | nil => intro _; rfl
  | cons b l ih =>
    intro h
    have hb := h b List.mem_cons_self
    have ht : bp_v l % 16 < 5 := by
      cases l with
      | nil => show 0 % 16 < 5; omega
      | cons d l =>
        have := (h d (List.mem_cons_of_mem _ List.mem_cons_self)).2
        show (d + 256 * bp_v l) % 16 < 5
        omega
    have e : bp_v (b :: l) + bp_v (b :: l) / 16 = (16 * (bp_v l % 16) + (b + b / 16)) + 256 * (bp_v l + bp_v l / 16) := by show (b + 256 * bp_v l) + (b + 256 * bp_v l) / 16 = _; omega
    rw [e]
    show _ &&& (15 + 256 * bp_k 15 l.length) = bp_f3 b + 256 * bp_v (l.map bp_f3)
    rw [bp_and (by omega) (by omega) (bp_b3 _ ht b hb.1), ih (fun c hc => h c (List.mem_cons_of_mem _ hc))]
    rfl
/-- bits of a number -/
def bp_c (x : Nat) : Nat → Nat
  | 0 => 0
  | n + 1 => bp_c x n + (x.testBit n).toNat
theorem bp_f : ∀ b, b < 256 → bp_f1 b < 256 ∧ ((b / 2) &&& 85) ≤ b ∧ bp_f2 (bp_f1 b) < 69 ∧ bp_f2 (bp_f1 b) % 16 < 5 ∧ bp_f3 (bp_f2 (bp_f1 b)) = bp_c b 8 := by decide +kernel
def bp_sum : List Nat → Nat
  | [] => 0
  | b :: bs => b + bp_sum bs
theorem bp_c8 {b h : Nat} (hb : b < 256) : ∀ n, bp_c (b + 256 * h) (8 + n) = bp_c b 8 + bp_c h n := by
  have lo : ∀ k, k ≤ 8 → bp_c (b + 256 * h) k = bp_c b k := by
    intro k
    induction k with
    | zero => intro _; rfl
    | succ k ih =>
      intro hk
      show bp_c (b + 256 * h) k + ((b + 256 * h).testBit k).toNat = bp_c b k + (b.testBit k).toNat
      rw [ih (by omega)]
      have : (b + 256 * h).testBit k = b.testBit k := by
        have e : b = (b + 256 * h) % 2 ^ 8 := by omega
        rw [e, Nat.testBit_mod_two_pow, ← e]
        simp [show k < 8 by omega]
      rw [this]
  intro n
  induction n with
  | zero => rw [Nat.add_zero, lo 8 (Nat.le_refl 8)]; rfl
  | succ n ih =>
    show bp_c (b + 256 * h) (8 + n) + ((b + 256 * h).testBit (8 + n)).toNat = bp_c b 8 + (bp_c h n + (h.testBit n).toNat)
    rw [ih]
    have e : (b + 256 * h) / 2 ^ 8 = h := by omega
    have : (b + 256 * h).testBit (8 + n) = ((b + 256 * h) / 2 ^ 8).testBit n := by rw [Nat.testBit_div_two_pow, Nat.add_comm 8 n]
    rw [this, e]
    omega
theorem bp_cnt : ∀ l : List Nat, (∀ b ∈ l, b < 256) → bp_c (bp_v l) (8 * l.length) = bp_sum (l.map fun b => bp_c b 8) := by
  intro l
  induction l with
  | nil => intro _; rfl
  | cons b l ih =>
    intro h
    have e : 8 * (b :: l).length = 8 + 8 * l.length := by simp only [List.length_cons]; omega
    rw [e]
    show bp_c (b + 256 * bp_v l) (8 + 8 * l.length) = bp_c b 8 + bp_sum (l.map fun b => bp_c b 8)
    rw [bp_c8 (h b List.mem_cons_self), ih (fun c hc => h c (List.mem_cons_of_mem _ hc))]
def bp_by : Nat → Nat → List Nat
  | 0, _ => []
  | n + 1, x => x % 256 :: bp_by n (x / 256)
theorem bp_by_v : ∀ (n x : Nat), x < 256 ^ n → bp_v (bp_by n x) = x := by
  intro n
  induction n with
  | zero => intro x h; have : x = 0 := by simpa using h
            subst this; rfl
  | succ n ih =>
    intro x h
    have h1 : x / 256 < 256 ^ n := Nat.div_lt_of_lt_mul (by rw [Nat.pow_succ, Nat.mul_comm] at h; exact h)
    show x % 256 + 256 * bp_v (bp_by n (x / 256)) = x
    rw [ih _ h1]
    exact Nat.mod_add_div x 256
theorem bp_by_lt : ∀ (n x : Nat), ∀ b ∈ bp_by n x, b < 256 := by
  intro n
  induction n with
  | zero => intro x b h; cases h
  | succ n ih =>
    intro x b h
    rcases List.mem_cons.mp h with h | h
    · rw [h]; exact Nat.mod_lt _ (by decide)
    · exact ih _ b h
def bp_bytes (x : Nat) : List Nat := [x % 256, x / 256 % 256, x / 256 / 256 % 256, x / 256 / 256 / 256 % 256, x / 256 / 256 / 256 / 256 % 256, x / 256 / 256 / 256 / 256 / 256 % 256, x / 256 / 256 / 256 / 256 / 256 / 256 % 256, x / 256 / 256 / 256 / 256 / 256 / 256 / 256 % 256]
theorem bp_bytes_e (x : Nat) : bp_bytes x = bp_by 8 x := rfl
theorem bp_bytes_v {x : Nat} (h : x < 18446744073709551616) : bp_v (bp_bytes x) = x := by
  rw [bp_bytes_e]
  exact bp_by_v 8 x h
theorem bp_bytes_lt (x : Nat) : ∀ b ∈ bp_bytes x, b < 256 := by
  rw [bp_bytes_e]
  exact bp_by_lt 8 x
theorem bp_c8le (b : Nat) : bp_c b 8 ≤ 8 := by
  have h : ∀ n, bp_c b n ≤ n := by
    intro n
    induction n with
    | zero => exact Nat.le_refl 0
    | succ n ih =>
      show bp_c b n + (b.testBit n).toNat ≤ n + 1
      have := Bool.toNat_le (b.testBit n)
      omega
  exact h 8
theorem bp_dv {A m : Nat} (C : Nat) (h : A < m) : (A + m * C) / m = C := by
  rw [Nat.add_mul_div_left _ _ (by omega), Nat.div_eq_of_lt h, Nat.zero_add]
theorem bp_i1 (c0 c1 c2 c3 c4 c5 c6 c7 : Nat) : (c0 + 256 * (c1 + 256 * (c2 + 256 * (c3 + 256 * (c4 + 256 * (c5 + 256 * (c6 + 256 * (c7 + 256 * 0)))))))) + (c1 + 256 * (c2 + 256 * (c3 + 256 * (c4 + 256 * (c5 + 256 * (c6 + 256 * (c7 + 256 * 0))))))) = ((c0 + c1) + 256 * (c1 + c2)) + 65536 * ((c2 + c3) + 256 * ((c3 + c4) + 256 * ((c4 + c5) + 256 * ((c5 + c6) + 256 * ((c6 + c7) + 256 * c7))))) := by omega
theorem bp_i2 (c0 c1 c2 c3 c4 c5 c6 c7 : Nat) : (((c0 + c1) + 256 * (c1 + c2)) + 65536 * ((c2 + c3) + 256 * ((c3 + c4) + 256 * ((c4 + c5) + 256 * ((c5 + c6) + 256 * ((c6 + c7) + 256 * c7)))))) + ((c2 + c3) + 256 * ((c3 + c4) + 256 * ((c4 + c5) + 256 * ((c5 + c6) + 256 * ((c6 + c7) + 256 * c7))))) = ((c0 + c1 + c2 + c3) + 256 * (c1 + c2 + c3 + c4) + 65536 * (c2 + c3 + c4 + c5) + 16777216 * (c3 + c4 + c5 + c6)) + 4294967296 * ((c4 + c5 + c6 + c7) + 256 * ((c5 + c6 + c7) + 256 * ((c6 + c7) + 256 * c7))) := by omega
theorem bp_i3 (c0 c1 c2 c3 c4 c5 c6 c7 : Nat) : ∃ K, (((c0 + c1 + c2 + c3) + 256 * (c1 + c2 + c3 + c4) + 65536 * (c2 + c3 + c4 + c5) + 16777216 * (c3 + c4 + c5 + c6)) + 4294967296 * ((c4 + c5 + c6 + c7) + 256 * ((c5 + c6 + c7) + 256 * ((c6 + c7) + 256 * c7)))) + ((c4 + c5 + c6 + c7) + 256 * ((c5 + c6 + c7) + 256 * ((c6 + c7) + 256 * c7))) = (c0 + c1 + c2 + c3 + c4 + c5 + c6 + c7) + 128 * K := by
  refine ⟨2 * (c1 + c2 + c3 + c4) + 512 * (c2 + c3 + c4 + c5) + 131072 * (c3 + c4 + c5 + c6) + 33554432 * ((c4 + c5 + c6 + c7) + 256 * ((c5 + c6 + c7) + 256 * ((c6 + c7) + 256 * c7))) + 2 * ((c5 + c6 + c7) + 256 * ((c6 + c7) + 256 * c7)), ?_⟩
  omega
theorem bp_b8 (c0 c1 c2 c3 c4 c5 c6 c7 : Nat) (h0 : c0 ≤ 8) (h1 : c1 ≤ 8) (h2 : c2 ≤ 8) (h3 : c3 ≤ 8) (h4 : c4 ≤ 8) (h5 : c5 ≤ 8) (h6 : c6 ≤ 8) (h7 : c7 ≤ 8) : ((c0 + c1) + 256 * (c1 + c2)) < 65536 ∧ ((c0 + c1 + c2 + c3) + 256 * (c1 + c2 + c3 + c4) + 65536 * (c2 + c3 + c4 + c5) + 16777216 * (c3 + c4 + c5 + c6)) < 4294967296 ∧ ((c2 + c3) + 256 * ((c3 + c4) + 256 * ((c4 + c5) + 256 * ((c5 + c6) + 256 * ((c6 + c7) + 256 * c7))))) ≤ 9000000000000 ∧ ((c4 + c5 + c6 + c7) + 256 * ((c5 + c6 + c7) + 256 * ((c6 + c7) + 256 * c7))) ≤ 136000000 := by
  refine ⟨by omega, by omega, by omega, by omega⟩
theorem bp_e1 {P Q : Nat} (h : P < 65536) (h2 : Q ≤ 9000000000000) : P + 65536 * Q < 18446744073709551616 := by omega
theorem bp_e2 {P Q : Nat} (h : P < 4294967296) (h2 : Q ≤ 136000000) : P + 4294967296 * Q < 18446744073709551616 ∧ (P + 4294967296 * Q) + Q < 18446744073709551616 := by omega
theorem bp_fin (c0 c1 c2 c3 c4 c5 c6 c7 : Nat) (h0 : c0 ≤ 8) (h1 : c1 ≤ 8) (h2 : c2 ≤ 8) (h3 : c3 ≤ 8) (h4 : c4 ≤ 8) (h5 : c5 ≤ 8) (h6 : c6 ≤ 8) (h7 : c7 ≤ 8) (y y1 y2 y3 : Nat)
    (ey : y = c0 + 256 * (c1 + 256 * (c2 + 256 * (c3 + 256 * (c4 + 256 * (c5 + 256 * (c6 + 256 * (c7 + 256 * 0)))))))) (e1 : y1 = y + y / 256) (e2 : y2 = y1 + y1 / 65536) (e3 : y3 = y2 + y2 / 4294967296) :
    y3 % 128 = c0 + c1 + c2 + c3 + c4 + c5 + c6 + c7 ∧ y1 < 18446744073709551616 ∧ y2 < 18446744073709551616 ∧ y3 < 18446744073709551616 := by
  obtain ⟨b1, b2, b3, b4⟩ := bp_b8 c0 c1 c2 c3 c4 c5 c6 c7 h0 h1 h2 h3 h4 h5 h6 h7
  have i1 := bp_i1 c0 c1 c2 c3 c4 c5 c6 c7
  have i2 := bp_i2 c0 c1 c2 c3 c4 c5 c6 c7
  obtain ⟨K, i3⟩ := bp_i3 c0 c1 c2 c3 c4 c5 c6 c7
  have z1 : y1 = ((c0 + c1) + 256 * (c1 + c2)) + 65536 * ((c2 + c3) + 256 * ((c3 + c4) + 256 * ((c4 + c5) + 256 * ((c5 + c6) + 256 * ((c6 + c7) + 256 * c7))))) := by rw [e1, ey, bp_dv _ (Nat.lt_of_le_of_lt h0 (by decide))]; exact i1
  have z2 : y2 = ((c0 + c1 + c2 + c3) + 256 * (c1 + c2 + c3 + c4) + 65536 * (c2 + c3 + c4 + c5) + 16777216 * (c3 + c4 + c5 + c6)) + 4294967296 * ((c4 + c5 + c6 + c7) + 256 * ((c5 + c6 + c7) + 256 * ((c6 + c7) + 256 * c7))) := by rw [e2, z1, bp_dv _ b1]; exact i2
  have z3 : y3 = (((c0 + c1 + c2 + c3) + 256 * (c1 + c2 + c3 + c4) + 65536 * (c2 + c3 + c4 + c5) + 16777216 * (c3 + c4 + c5 + c6)) + 4294967296 * ((c4 + c5 + c6 + c7) + 256 * ((c5 + c6 + c7) + 256 * ((c6 + c7) + 256 * c7)))) + ((c4 + c5 + c6 + c7) + 256 * ((c5 + c6 + c7) + 256 * ((c6 + c7) + 256 * c7))) := by rw [e3, z2, bp_dv _ b2]
  have w3 : y3 = (c0 + c1 + c2 + c3 + c4 + c5 + c6 + c7) + 128 * K := by rw [z3]; exact i3
  have hs : c0 + c1 + c2 + c3 + c4 + c5 + c6 + c7 < 128 := by
    clear i1 i2 i3 z1 z2 z3 w3 e1 e2 e3 ey b1 b2 b3 b4
    omega
  refine ⟨by rw [w3, Nat.add_mul_mod_self_left, Nat.mod_eq_of_lt hs], ?_, ?_, ?_⟩
  · rw [z1]; exact bp_e1 b1 b3
  · rw [z2]; exact (bp_e2 b2 b4).1
  · rw [z3]; exact (bp_e2 b2 b4).2
theorem bp_h {x : Nat} (h : x < 5000000000000000000) : x < 18446744073709551616 ∧ x + x / 16 < 18446744073709551616 := by omega
theorem bp_69 (c0 c1 c2 c3 c4 c5 c6 c7 : Nat) (h0 : c0 < 69) (h1 : c1 < 69) (h2 : c2 < 69) (h3 : c3 < 69) (h4 : c4 < 69) (h5 : c5 < 69) (h6 : c6 < 69) (h7 : c7 < 69) :
    c0 + 256 * (c1 + 256 * (c2 + 256 * (c3 + 256 * (c4 + 256 * (c5 + 256 * (c6 + 256 * (c7 + 256 * 0))))))) < 5000000000000000000 := by omega
/-- the whole of it, on numbers below 2^64 -/
theorem bp_all {x x1 x2 x3 y1 y2 y3 : Nat} (hx : x < 18446744073709551616) (e1 : x1 = x - ((x / 2) &&& 6148914691236517205)) (e2 : x2 = (x1 &&& 3689348814741910323) + ((x1 / 4) &&& 3689348814741910323))
    (e3 : x3 = (x2 + x2 / 16) &&& 1085102592571150095) (f1 : y1 = x3 + x3 / 256) (f2 : y2 = y1 + y1 / 65536) (f3 : y3 = y2 + y2 / 4294967296) :
    y3 % 128 = bp_c x 64 ∧ ((x / 2) &&& 6148914691236517205) ≤ x ∧ x2 < 18446744073709551616 ∧ x2 + x2 / 16 < 18446744073709551616 ∧ y1 < 18446744073709551616 ∧ y2 < 18446744073709551616 ∧ y3 < 18446744073709551616 := by
  have hv := bp_bytes_v hx
  have hl := bp_bytes_lt x
  have hc := bp_cnt (bp_bytes x) hl
  have hlen : (bp_bytes x).length = 8 := rfl
  rw [hv] at hc
  have s1 := bp_s1 (bp_bytes x) hl
  rw [hv] at s1
  have k1 : bp_k 85 (bp_bytes x).length = 6148914691236517205 := rfl
  rw [k1] at s1
  have d1 := bp_sub (bp_bytes x) (fun b => b) (fun b => (b / 2) &&& 85) (fun b hb => (bp_f b (hl b hb)).2.1)
  rw [List.map_id' (bp_bytes x), hv] at d1
  rw [← s1] at d1
  have z1 : x1 = bp_v ((bp_bytes x).map bp_f1) := by rw [e1, d1.1]; rfl
  have l1 : ∀ b ∈ (bp_bytes x).map bp_f1, b < 256 := by
    intro b hb
    obtain ⟨a, ha, rfl⟩ := List.mem_map.mp hb
    exact (bp_f a (hl a ha)).1
  have k2 : bp_k 51 ((bp_bytes x).map bp_f1).length = 3689348814741910323 := rfl
  have s2 := bp_s2 _ l1
  have s2' := bp_s2' _ l1
  rw [k2, ← z1] at s2 s2'
  have z2 : x2 = bp_v ((bp_bytes x).map fun b => bp_f2 (bp_f1 b)) := by
    rw [e2, s2, s2', bp_add, List.map_map]; rfl
  have l2 : ∀ b ∈ (bp_bytes x).map (fun b => bp_f2 (bp_f1 b)), b < 69 ∧ b % 16 < 5 := by
    intro b hb
    obtain ⟨a, ha, rfl⟩ := List.mem_map.mp hb
    have := bp_f a (hl a ha)
    exact ⟨this.2.2.1, this.2.2.2.1⟩
  have k3 : bp_k 15 ((bp_bytes x).map (fun b => bp_f2 (bp_f1 b))).length = 1085102592571150095 := rfl
  have s3 := bp_s3 _ l2
  rw [k3, ← z2] at s3
  have z3 : x3 = bp_v ((bp_bytes x).map fun b => bp_c b 8) := by
    rw [e3, s3, List.map_map]
    congr 1
    refine List.map_congr_left fun a ha => ?_
    exact (bp_f a (hl a ha)).2.2.2.2
  have hx2 : x2 < 5000000000000000000 := by
    rw [z2]
    have q := fun a => (bp_f (a % 256) (Nat.mod_lt _ (by decide))).2.2.1
    simp only [bp_bytes, List.map_cons, List.map_nil, bp_v]
    exact bp_69 _ _ _ _ _ _ _ _ (q (x)) (q (x / 256)) (q (x / 256 / 256)) (q (x / 256 / 256 / 256)) (q (x / 256 / 256 / 256 / 256)) (q (x / 256 / 256 / 256 / 256 / 256)) (q (x / 256 / 256 / 256 / 256 / 256 / 256)) (q (x / 256 / 256 / 256 / 256 / 256 / 256 / 256))
  simp only [bp_bytes, List.map_cons, List.map_nil, bp_v] at z3
  have fin := bp_fin _ _ _ _ _ _ _ _ (bp_c8le (x % 256)) (bp_c8le (x / 256 % 256)) (bp_c8le (x / 256 / 256 % 256)) (bp_c8le (x / 256 / 256 / 256 % 256)) (bp_c8le (x / 256 / 256 / 256 / 256 % 256)) (bp_c8le (x / 256 / 256 / 256 / 256 / 256 % 256)) (bp_c8le (x / 256 / 256 / 256 / 256 / 256 / 256 % 256)) (bp_c8le (x / 256 / 256 / 256 / 256 / 256 / 256 / 256 % 256)) x3 y1 y2 y3 z3 f1 f2 f3
  refine ⟨?_, d1.2, (bp_h hx2).1, (bp_h hx2).2, fin.2.1, fin.2.2.1, fin.2.2.2⟩
  rw [fin.1]
  have : bp_c x 64 = bp_c x (8 * (bp_bytes x).length) := rfl
  rw [this, hc]
  simp only [bp_bytes, List.map_cons, List.map_nil, bp_sum, Nat.add_assoc, Nat.add_zero]
