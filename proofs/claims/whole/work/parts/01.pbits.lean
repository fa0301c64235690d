/-! PURE 1: a long as a set of bits -/
def bw_m (x : Int64) (i : Nat) : Bool := x.toBitVec.getLsbD i
theorem bw_ext {x y : Int64} (h : ∀ i, i < 64 → bw_m x i = bw_m y i) : x = y := Int64.toBitVec_inj.mp (BitVec.eq_of_getLsbD_eq h)
theorem bw_and (x y : Int64) (i : Nat) : bw_m (x &&& y) i = (bw_m x i && bw_m y i) := by simp [bw_m]
theorem bw_or (x y : Int64) (i : Nat) : bw_m (x ||| y) i = (bw_m x i || bw_m y i) := by simp [bw_m]
theorem bw_xor (x y : Int64) (i : Nat) : bw_m (x ^^^ y) i = (bw_m x i ^^ bw_m y i) := by simp [bw_m]
theorem bw_m1' : ∀ i, i < 64 → bw_m (-1) i = true := by decide +kernel
theorem bw_not (x : Int64) {i : Nat} (h : i < 64) : bw_m (x ^^^ (-1)) i = !bw_m x i := by rw [bw_xor, bw_m1' i h, Bool.xor_true]
theorem bw_0 (i : Nat) : bw_m 0 i = false := by simp [bw_m]
theorem bw_big {x : Int64} {i : Nat} (h : 64 ≤ i) : bw_m x i = false := BitVec.getLsbD_of_ge _ _ h
theorem bw_lt {x : Int64} {i : Nat} (h : bw_m x i = true) : i < 64 := by
  rcases Nat.lt_or_ge i 64 with z | z
  · exact z
  · rw [bw_big z] at h; cases h
/-- block k as a set -/
def bw_b (k : Nat) : Int64 := (1 : Int64) <<< ((nI k).toInt64 &&& 63)
theorem bw_bT : ∀ k, k < 64 → (bw_b k).toBitVec = BitVec.twoPow 64 k := by decide +kernel
theorem bw_bit {k : Nat} (hk : k < 64) (i : Nat) : bw_m (bw_b k) i = decide (k = i) := by
  unfold bw_m
  rw [bw_bT k hk, BitVec.getLsbD_twoPow]
  simp [hk]
theorem bw_has {x : Int64} {k : Nat} (hk : k < 64) : (x &&& bw_b k) = 0 ↔ bw_m x k = false := by
  constructor
  · intro h
    have h1 : bw_m (x &&& bw_b k) k = bw_m 0 k := by rw [h]
    rw [bw_and, bw_bit hk, bw_0] at h1
    simpa using h1
  · intro h
    refine bw_ext fun i hi => ?_
    rw [bw_and, bw_bit hk, bw_0]
    by_cases e : k = i
    · subst e; simp [h]
    · simp [e]
theorem bw_z {x : Int64} : x = 0 ↔ ∀ i, bw_m x i = false := by
  constructor
  · intro h i; rw [h, bw_0]
  · intro h; exact bw_ext fun i _ => by rw [h, bw_0]
theorem bw_nz {x : Int64} (h : ¬ x = 0) : ∃ i, i < 64 ∧ bw_m x i = true := by
  by_cases e : ∃ i, i < 64 ∧ bw_m x i = true
  · exact e
  · exact absurd (bw_z.mpr fun i => by
      cases hx : bw_m x i with
      | false => rfl
      | true => exact absurd ⟨i, bw_lt hx, hx⟩ e) h
theorem bw_s1 : ∀ k, k < 64 → (((nI k).toInt64 &&& 63).toBitVec.smod 64).toNat = k := by decide +kernel
theorem bw_one (i : Nat) : bw_m 1 i = decide (0 = i) := bw_bit (k := 0) (by decide) i
theorem bw_shr (x : Int64) {k : Nat} (hk : k < 64) : bw_m (x >>> ((nI k).toInt64 &&& 63)) 0 = bw_m x k := by
  unfold bw_m
  rw [Int64.toBitVec_shiftRight]
  rw [BitVec.sshiftRight_eq', bw_s1 k hk, BitVec.getLsbD_sshiftRight]
  simp [hk]
theorem bw_is {x : Int64} {k : Nat} (hk : k < 64) : ((x >>> ((nI k).toInt64 &&& 63)) &&& 1) = 1 ↔ bw_m x k = true := by
  constructor
  · intro h
    have h1 : bw_m ((x >>> ((nI k).toInt64 &&& 63)) &&& 1) 0 = bw_m 1 0 := by rw [h]
    rw [bw_and, bw_shr x hk, bw_one] at h1
    simpa using h1
  · intro h
    refine bw_ext fun i hi => ?_
    rw [bw_and, bw_one]
    by_cases e : 0 = i
    · subst e; rw [bw_shr x hk, h]; simp
    · simp [e]
/-- a Java boolean -/
def bw_i (c : Bool) : Int32 := if c = true then 1 else 0
theorem bw_iT {c : Bool} (h : c = true) : bw_i c = 1 := by simp [bw_i, h]
theorem bw_iF {c : Bool} (h : c = false) : bw_i c = 0 := by simp [bw_i, h]
theorem bw_i0 {c : Bool} : bw_i c = 0 ↔ c = false := by cases c <;> simp [bw_i]
theorem bw_in0 {c : Bool} (h : ¬ bw_i c = 0) : c = true := by
  cases c
  · exact absurd rfl h
  · rfl
theorem bw_cmp0 {x y : Int64} : lg_cmp x y = 0 ↔ x = y := by
  unfold lg_cmp
  by_cases h1 : y < x
  · simp only [h1, if_true]
    constructor
    · intro h; exact absurd h (by decide)
    · intro h; subst h; exact absurd h1 (by simp)
  · by_cases h2 : x = y
    · simp [h1, h2]
    · simp [h1, h2]
/-- how many of the first n bits -/
def bw_c (x : Int64) : Nat → Nat
  | 0 => 0
  | n + 1 => bw_c x n + (bw_m x n).toNat
theorem bw_c_le (x : Int64) (n : Nat) : bw_c x n ≤ n := by
  induction n with
  | zero => exact Nat.le_refl 0
  | succ n ih =>
    show bw_c x n + (bw_m x n).toNat ≤ n + 1
    have := Bool.toNat_le (bw_m x n)
    omega
theorem bw_c_full {x : Int64} : ∀ {n : Nat}, n ≤ bw_c x n → ∀ i, i < n → bw_m x i = true := by
  intro n
  induction n with
  | zero => intro _ i h; omega
  | succ n ih =>
    intro h i hi
    have h1 : n + 1 ≤ bw_c x n + (bw_m x n).toNat := h
    have h2 := bw_c_le x n
    have h3 := Bool.toNat_le (bw_m x n)
    rcases Nat.lt_or_ge i n with z | z
    · exact ih (by omega) i z
    · have e : i = n := by omega
      subst e
      cases hx : bw_m x i with
      | true => rfl
      | false => rw [hx] at h1; simp at h1; omega
theorem bw_c_mono {x y : Int64} : ∀ {n : Nat}, (∀ i, i < n → bw_m x i = true → bw_m y i = true) → bw_c x n ≤ bw_c y n := by
  intro n
  induction n with
  | zero => intro _; exact Nat.le_refl 0
  | succ n ih =>
    intro h
    have h1 := ih (fun i hi => h i (by omega))
    show bw_c x n + (bw_m x n).toNat ≤ bw_c y n + (bw_m y n).toNat
    have h2 : (bw_m x n).toNat ≤ (bw_m y n).toNat := by
      cases hx : bw_m x n with
      | false => simp
      | true => rw [h n (by omega) hx]; simp
    omega
theorem bw_c_lt {x y : Int64} : ∀ {n : Nat}, (∀ i, i < n → bw_m x i = true → bw_m y i = true) → (∃ i, i < n ∧ bw_m x i = false ∧ bw_m y i = true) → bw_c x n < bw_c y n := by
  intro n
  induction n with
  | zero => intro _ h; obtain ⟨i, h, -⟩ := h; omega
  | succ n ih =>
    intro h ⟨i, hi, h1, h2⟩
    show bw_c x n + (bw_m x n).toNat < bw_c y n + (bw_m y n).toNat
    have h4 : (bw_m x n).toNat ≤ (bw_m y n).toNat := by
      cases hx : bw_m x n with
      | false => simp
      | true => rw [h n (by omega) hx]; simp
    rcases Nat.lt_or_ge i n with z | z
    · have := ih (fun i hi => h i (by omega)) ⟨i, z, h1, h2⟩
      omega
    · have e : i = n := by omega
      subst e
      have := bw_c_mono (x := x) (y := y) (n := i) (fun j hj => h j (by omega))
      rw [h1, h2]
      simp
      omega
theorem bw_c_cut {x : Int64} {k : Nat} (h : ∀ i, k ≤ i → bw_m x i = false) : ∀ n, k ≤ n → bw_c x n = bw_c x k := by
  intro n
  induction n with
  | zero => intro z; have : k = 0 := by omega
            subst this; rfl
  | succ n ih =>
    intro z
    rcases Nat.lt_or_ge n k with y | y
    · have : k = n + 1 := by omega
      rw [this]
    · show bw_c x n + (bw_m x n).toNat = _
      rw [ih y, h n y]; rfl
/-- the least one of a set, 64 of none -/
def bw_lo (x : Int64) : Nat := bw_c ((x &&& (-x)) - 1) 64
theorem bw_lo0 : bw_lo 0 = 64 := by decide +kernel
theorem bw_loB : ∀ k, k < 64 → bw_c (bw_b k - 1) 64 = k := by decide +kernel
theorem bw_loT {x : Int64} {k : Nat} (hk : bw_m x k = true) (h : ∀ j, j < k → bw_m x j = false) : bw_lo x = k := by
  have h64 := bw_lt hk
  have e : (x &&& (-x)) = bw_b k := by
    refine bw_ext fun i hi => ?_
    rw [bw_and, bw_bit h64]
    have hn : bw_m (-x) i = (bw_m x i ^^ (decide (i < 64) && decide (∃ j, j < i ∧ bw_m x j = true))) := by
      unfold bw_m
      rw [Int64.toBitVec_neg, BitVec.getLsbD_neg]
    rw [hn]
    rcases Nat.lt_trichotomy i k with z | z | z
    · rw [h i z]; simp; omega
    · subst z
      have : ¬ ∃ j, j < i ∧ bw_m x j = true := fun ⟨j, a, b⟩ => by rw [h j a] at b; cases b
      simp [hk, this]
    · have h1 : ∃ j, j < i ∧ bw_m x j = true := ⟨k, z, hk⟩
      have h2 : ¬ k = i := by omega
      simp [hi, h1, h2]
      
  unfold bw_lo
  rw [e]
  exact bw_loB k h64
theorem bw_lo_at {x : Int64} (h : ¬ x = 0) : bw_m x (bw_lo x) = true ∧ ∀ j, j < bw_lo x → bw_m x j = false := by
  obtain ⟨i, -, hi⟩ := bw_nz h
  obtain ⟨k, hk, hl⟩ := pk_least (fun k => bw_m x k = true) ⟨i, hi⟩
  have h2 : ∀ j, j < k → bw_m x j = false := fun j hj => by
    cases hx : bw_m x j with
    | false => rfl
    | true => exact absurd hx (hl j hj)
  rw [bw_loT hk h2]
  exact ⟨hk, h2⟩
/-- .. below 40 -/
theorem bw_lo_lt {x : Int64} (h : bw_lo x < 64) : bw_m x (bw_lo x) = true ∧ ∀ j, j < bw_lo x → bw_m x j = false := by
  by_cases e : x = 0
  · subst e; rw [bw_lo0] at h; omega
  · exact bw_lo_at e
theorem bw_lo_ge {x : Int64} {n : Nat} (h : ¬ bw_lo x < n) : ∀ j, j < n → bw_m x j = false := by
  intro j hj
  by_cases e : x = 0
  · rw [e, bw_0]
  · exact (bw_lo_at e).2 j (by omega)
theorem bw_lo_le (x : Int64) : bw_lo x ≤ 64 := bw_c_le _ _
/-! folds over blocks -/
def bw_F (c : Nat → Bool) (g : Nat → Int64) (z : Int64) : Nat → Int64
  | 0 => z
  | n + 1 => if c n = true then bw_F c g z n ||| g n else bw_F c g z n
theorem bw_F_m (c : Nat → Bool) (g : Nat → Int64) (z : Int64) (n i : Nat) : bw_m (bw_F c g z n) i = true ↔ bw_m z i = true ∨ ∃ b, b < n ∧ c b = true ∧ bw_m (g b) i = true := by
  induction n with
  | zero => simp [bw_F]
  | succ n ih =>
    unfold bw_F
    by_cases h : c n = true
    · rw [if_pos h, bw_or, Bool.or_eq_true, ih]
      constructor
      · rintro ((h1 | ⟨b, h1, h2⟩) | h1)
        · exact Or.inl h1
        · exact Or.inr ⟨b, by omega, h2⟩
        · exact Or.inr ⟨n, by omega, h, h1⟩
      · rintro (h1 | ⟨b, h1, h2⟩)
        · exact Or.inl (Or.inl h1)
        · rcases Nat.lt_or_ge b n with z | z
          · exact Or.inl (Or.inr ⟨b, z, h2⟩)
          · have : b = n := by omega
            subst this; exact Or.inr h2.2
    · rw [if_neg h, ih]
      constructor
      · rintro (h1 | ⟨b, h1, h2⟩)
        · exact Or.inl h1
        · exact Or.inr ⟨b, by omega, h2⟩
      · rintro (h1 | ⟨b, h1, h2⟩)
        · exact Or.inl h1
        · rcases Nat.lt_or_ge b n with z | z
          · exact Or.inr ⟨b, z, h2⟩
          · have : b = n := by omega
            subst this; exact absurd h2.1 h
/-- .. of those in all -/
def bw_A (c : Nat → Bool) (g : Nat → Int64) (z : Int64) : Nat → Int64
  | 0 => z
  | n + 1 => if c n = true then bw_A c g z n &&& g n else bw_A c g z n
theorem bw_A_m (c : Nat → Bool) (g : Nat → Int64) (z : Int64) (n i : Nat) : bw_m (bw_A c g z n) i = true ↔ bw_m z i = true ∧ ∀ b, b < n → c b = true → bw_m (g b) i = true := by
  induction n with
  | zero => simp [bw_A]
  | succ n ih =>
    unfold bw_A
    by_cases h : c n = true
    · rw [if_pos h, bw_and, Bool.and_eq_true, ih]
      constructor
      · rintro ⟨⟨h1, h2⟩, h3⟩
        refine ⟨h1, fun b hb hc => ?_⟩
        rcases Nat.lt_or_ge b n with z | z
        · exact h2 b z hc
        · have : b = n := by omega
          subst this; exact h3
      · rintro ⟨h1, h2⟩
        exact ⟨⟨h1, fun b hb hc => h2 b (by omega) hc⟩, h2 n (by omega) h⟩
    · rw [if_neg h, ih]
      constructor
      · rintro ⟨h1, h2⟩
        refine ⟨h1, fun b hb hc => ?_⟩
        rcases Nat.lt_or_ge b n with z | z
        · exact h2 b z hc
        · have : b = n := by omega
          subst this; exact absurd hc h
      · rintro ⟨h1, h2⟩
        exact ⟨h1, fun b hb hc => h2 b (by omega) hc⟩
/-- how many blocks -/
def bw_N (c : Nat → Bool) : Nat → Nat
  | 0 => 0
  | n + 1 => if c n = true then bw_N c n + 1 else bw_N c n
theorem bw_N_le (c : Nat → Bool) (n : Nat) : bw_N c n ≤ n := by
  induction n with
  | zero => exact Nat.le_refl 0
  | succ n ih => unfold bw_N; split <;> omega
theorem bw_N_ext {c d : Nat → Bool} : ∀ {n : Nat}, (∀ i, i < n → c i = d i) → bw_N c n = bw_N d n := by
  intro n
  induction n with
  | zero => intro _; rfl
  | succ n ih => intro h; unfold bw_N; rw [ih (fun i hi => h i (by omega)), h n (by omega)]
theorem bw_N_c (x : Int64) (n : Nat) : bw_N (bw_m x) n = bw_c x n := by
  induction n with
  | zero => rfl
  | succ n ih =>
    show _ = bw_c x n + (bw_m x n).toNat
    unfold bw_N
    rw [ih]
    cases bw_m x n <;> simp
/-- the most -/
def bw_X (f : Nat → Nat) : Nat → Nat
  | 0 => 0
  | n + 1 => if bw_X f n < f n then f n else bw_X f n
theorem bw_X_le {f : Nat → Nat} {k : Nat} (h : ∀ i, f i ≤ k) : ∀ n, bw_X f n ≤ k := by
  intro n
  induction n with
  | zero => exact Nat.zero_le k
  | succ n ih => unfold bw_X; split; exact h n; exact ih
theorem bw_X_ext {f g : Nat → Nat} : ∀ {n : Nat}, (∀ i, i < n → f i = g i) → bw_X f n = bw_X g n := by
  intro n
  induction n with
  | zero => intro _; rfl
  | succ n ih => intro h; unfold bw_X; rw [ih (fun i hi => h i (by omega)), h n (by omega)]
