section
/-! PURE 1: a long as a set of bits -/
def bw_m (x : Int64) (i : Nat) : Bool := x.toBitVec.getLsbD i
theorem bw_ext {x y : Int64} (h : ∀ i, i < 64 → bw_m x i = bw_m y i) : x = y := Int64.toBitVec_inj.mp (BitVec.eq_of_getLsbD_eq h)
theorem bw_and (x y : Int64) (i : Nat) : bw_m (x &&& y) i = (bw_m x i && bw_m y i) := by simp [bw_m]
theorem bw_or (x y : Int64) (i : Nat) : bw_m (x ||| y) i = (bw_m x i || bw_m y i) := by simp [bw_m]
theorem bw_xor (x y : Int64) (i : Nat) : bw_m (x ^^^ y) i = (bw_m x i ^^ bw_m y i) := by simp [bw_m]
theorem bw_m1' : ∀ i, i < 64 → bw_m (-1) i = true := by decide +kernel
theorem bw_not (x : Int64) {i : Nat} (h : i < 64) : bw_m (x ^^^ (-1)) i = !bw_m x i := by rw [bw_xor, bw_m1' i h, Bool.xor_true]
theorem bw_0 (i : Nat) : bw_m 0 i = false := by simp [bw_m]
theorem bw_big {x : Int64} {i : Nat} (h : 64 ≤ i) : bw_m x i = false := BitVec.getLsbD_of_ge _ _ h
theorem bw_lt {x : Int64} {i : Nat} (h : bw_m x i = true) : i < 64 := by
  rcases Nat.lt_or_ge i 64 with z | z
  · exact z
  · rw [bw_big z] at h; cases h
/-- block k as a set -/
def bw_b (k : Nat) : Int64 := (1 : Int64) <<< ((nI k).toInt64 &&& 63)
theorem bw_bT : ∀ k, k < 64 → (bw_b k).toBitVec = BitVec.twoPow 64 k := by decide +kernel
theorem bw_bit {k : Nat} (hk : k < 64) (i : Nat) : bw_m (bw_b k) i = decide (k = i) := by
  unfold bw_m
  rw [bw_bT k hk, BitVec.getLsbD_twoPow]
  simp [hk]
theorem bw_has {x : Int64} {k : Nat} (hk : k < 64) : (x &&& bw_b k) = 0 ↔ bw_m x k = false := by
  constructor
  · intro h
    have h1 : bw_m (x &&& bw_b k) k = bw_m 0 k := by rw [h]
    rw [bw_and, bw_bit hk, bw_0] at h1
    simpa using h1
  · intro h
    refine bw_ext fun i hi => ?_
    rw [bw_and, bw_bit hk, bw_0]
    by_cases e : k = i
    · subst e; simp [h]
    · simp [e]
theorem bw_z {x : Int64} : x = 0 ↔ ∀ i, bw_m x i = false := by
  constructor
  · intro h i; rw [h, bw_0]
  · intro h; exact bw_ext fun i _ => by rw [h, bw_0]
theorem bw_nz {x : Int64} (h : ¬ x = 0) : ∃ i, i < 64 ∧ bw_m x i = true := by
  by_cases e : ∃ i, i < 64 ∧ bw_m x i = true
  · exact e
  · exact absurd (bw_z.mpr fun i => by
      cases hx : bw_m x i with
      | false => rfl
      | true => exact absurd ⟨i, bw_lt hx, hx⟩ e) h
theorem bw_s1 : ∀ k, k < 64 → (((nI k).toInt64 &&& 63).toBitVec.smod 64).toNat = k := by decide +kernel
theorem bw_one (i : Nat) : bw_m 1 i = decide (0 = i) := bw_bit (k := 0) (by decide) i
theorem bw_shr (x : Int64) {k : Nat} (hk : k < 64) : bw_m (x >>> ((nI k).toInt64 &&& 63)) 0 = bw_m x k := by
  unfold bw_m
  rw [Int64.toBitVec_shiftRight]
  rw [BitVec.sshiftRight_eq', bw_s1 k hk, BitVec.getLsbD_sshiftRight]
  simp [hk]
theorem bw_is {x : Int64} {k : Nat} (hk : k < 64) : ((x >>> ((nI k).toInt64 &&& 63)) &&& 1) = 1 ↔ bw_m x k = true := by
  constructor
  · intro h
    have h1 : bw_m ((x >>> ((nI k).toInt64 &&& 63)) &&& 1) 0 = bw_m 1 0 := by rw [h]
    rw [bw_and, bw_shr x hk, bw_one] at h1
    simpa using h1
  · intro h
    refine bw_ext fun i hi => ?_
    rw [bw_and, bw_one]
    by_cases e : 0 = i
    · subst e; rw [bw_shr x hk, h]; simp
    · simp [e]
/-- a Java boolean -/
def bw_i (c : Bool) : Int32 := if c = true then 1 else 0
theorem bw_iT {c : Bool} (h : c = true) : bw_i c = 1 := by simp [bw_i, h]
theorem bw_iF {c : Bool} (h : c = false) : bw_i c = 0 := by simp [bw_i, h]
theorem bw_i0 {c : Bool} : bw_i c = 0 ↔ c = false := by cases c <;> simp [bw_i]
theorem bw_in0 {c : Bool} (h : ¬ bw_i c = 0) : c = true := by
  cases c
  · exact absurd rfl h
  · rfl
theorem bw_cmp0 {x y : Int64} : lg_cmp x y = 0 ↔ x = y := by
  unfold lg_cmp
  by_cases h1 : y < x
  · simp only [h1, if_true]
    constructor
    · intro h; exact absurd h (by decide)
    · intro h; subst h; exact absurd h1 (by simp)
  · by_cases h2 : x = y
    · simp [h1, h2]
    · simp [h1, h2]
/-- how many of the first n bits -/
def bw_c (x : Int64) : Nat → Nat
  | 0 => 0
  | n + 1 => bw_c x n + (bw_m x n).toNat
theorem bw_c_le (x : Int64) (n : Nat) : bw_c x n ≤ n := by
  induction n with
  | zero => exact Nat.le_refl 0
  | succ n ih =>
    show bw_c x n + (bw_m x n).toNat ≤ n + 1
    have := Bool.toNat_le (bw_m x n)
    omega
theorem bw_c_full {x : Int64} : ∀ {n : Nat}, n ≤ bw_c x n → ∀ i, i < n → bw_m x i = true := by
  intro n
  induction n with
  | zero => intro _ i h; omega
  | succ n ih =>
    intro h i hi
    have h1 : n + 1 ≤ bw_c x n + (bw_m x n).toNat := h
    have h2 := bw_c_le x n
    have h3 := Bool.toNat_le (bw_m x n)
    rcases Nat.lt_or_ge i n with z | z
    · exact ih (by omega) i z
    · have e : i = n := by omega
      subst e
      cases hx : bw_m x i with
      | true => rfl
      | false => rw [hx] at h1; simp at h1; omega
theorem bw_c_mono {x y : Int64} : ∀ {n : Nat}, (∀ i, i < n → bw_m x i = true → bw_m y i = true) → bw_c x n ≤ bw_c y n := by
  intro n
  induction n with
  | zero => intro _; exact Nat.le_refl 0
  | succ n ih =>
    intro h
    have h1 := ih (fun i hi => h i (by omega))
    show bw_c x n + (bw_m x n).toNat ≤ bw_c y n + (bw_m y n).toNat
    have h2 : (bw_m x n).toNat ≤ (bw_m y n).toNat := by
      cases hx : bw_m x n with
      | false => simp
      | true => rw [h n (by omega) hx]; simp
    omega
theorem bw_c_lt {x y : Int64} : ∀ {n : Nat}, (∀ i, i < n → bw_m x i = true → bw_m y i = true) → (∃ i, i < n ∧ bw_m x i = false ∧ bw_m y i = true) → bw_c x n < bw_c y n := by
  intro n
  induction n with
  | zero => intro _ h; obtain ⟨i, h, -⟩ := h; omega
  | succ n ih =>
    intro h ⟨i, hi, h1, h2⟩
    show bw_c x n + (bw_m x n).toNat < bw_c y n + (bw_m y n).toNat
    have h4 : (bw_m x n).toNat ≤ (bw_m y n).toNat := by
      cases hx : bw_m x n with
      | false => simp
      | true => rw [h n (by omega) hx]; simp
    rcases Nat.lt_or_ge i n with z | z
    · have := ih (fun i hi => h i (by omega)) ⟨i, z, h1, h2⟩
      omega
    · have e : i = n := by omega
      subst e
      have := bw_c_mono (x := x) (y := y) (n := i) (fun j hj => h j (by omega))
      rw [h1, h2]
      simp
      omega
theorem bw_c_cut {x : Int64} {k : Nat} (h : ∀ i, k ≤ i → bw_m x i = false) : ∀ n, k ≤ n → bw_c x n = bw_c x k := by
  intro n
  induction n with
  | zero => intro z; have : k = 0 := by omega
            subst this; rfl
  | succ n ih =>
    intro z
    rcases Nat.lt_or_ge n k with y | y
    · have : k = n + 1 := by omega
      rw [this]
    · show bw_c x n + (bw_m x n).toNat = _
      rw [ih y, h n y]; rfl
/-- the least one of a set, 64 of none -/
def bw_lo (x : Int64) : Nat := bw_c ((x &&& (-x)) - 1) 64
theorem bw_lo0 : bw_lo 0 = 64 := by decide +kernel
theorem bw_loB : ∀ k, k < 64 → bw_c (bw_b k - 1) 64 = k := by decide +kernel
theorem bw_loT {x : Int64} {k : Nat} (hk : bw_m x k = true) (h : ∀ j, j < k → bw_m x j = false) : bw_lo x = k := by
  have h64 := bw_lt hk
  have e : (x &&& (-x)) = bw_b k := by
    refine bw_ext fun i hi => ?_
    rw [bw_and, bw_bit h64]
    have hn : bw_m (-x) i = (bw_m x i ^^ (decide (i < 64) && decide (∃ j, j < i ∧ bw_m x j = true))) := by
      unfold bw_m
      rw [Int64.toBitVec_neg, BitVec.getLsbD_neg]
    rw [hn]
    rcases Nat.lt_trichotomy i k with z | z | z
    · rw [h i z]; simp; omega
    · subst z
      have : ¬ ∃ j, j < i ∧ bw_m x j = true := fun ⟨j, a, b⟩ => by rw [h j a] at b; cases b
      simp [hk, this]
    · have h1 : ∃ j, j < i ∧ bw_m x j = true := ⟨k, z, hk⟩
      have h2 : ¬ k = i := by omega
      simp [hi, h1, h2]
      
  unfold bw_lo
  rw [e]
  exact bw_loB k h64
theorem bw_lo_at {x : Int64} (h : ¬ x = 0) : bw_m x (bw_lo x) = true ∧ ∀ j, j < bw_lo x → bw_m x j = false := by
  obtain ⟨i, -, hi⟩ := bw_nz h
  obtain ⟨k, hk, hl⟩ := pk_least (fun k => bw_m x k = true) ⟨i, hi⟩
  have h2 : ∀ j, j < k → bw_m x j = false := fun j hj => by
    cases hx : bw_m x j with
    | false => rfl
    | true => exact absurd hx (hl j hj)
  rw [bw_loT hk h2]
  exact ⟨hk, h2⟩
/-- .. below 40 -/
theorem bw_lo_lt {x : Int64} (h : bw_lo x < 64) : bw_m x (bw_lo x) = true ∧ ∀ j, j < bw_lo x → bw_m x j = false := by
  by_cases e : x = 0
  · subst e; rw [bw_lo0] at h; omega
  · exact bw_lo_at e
theorem bw_lo_ge {x : Int64} {n : Nat} (h : ¬ bw_lo x < n) : ∀ j, j < n → bw_m x j = false := by
  intro j hj
  by_cases e : x = 0
  · rw [e, bw_0]
  · exact (bw_lo_at e).2 j (by omega)
theorem bw_lo_le (x : Int64) : bw_lo x ≤ 64 := bw_c_le _ _
/-! folds over blocks -/
def bw_F (c : Nat → Bool) (g : Nat → Int64) (z : Int64) : Nat → Int64
  | 0 => z
  | n + 1 => if c n = true then bw_F c g z n ||| g n else bw_F c g z n
theorem bw_F_m (c : Nat → Bool) (g : Nat → Int64) (z : Int64) (n i : Nat) : bw_m (bw_F c g z n) i = true ↔ bw_m z i = true ∨ ∃ b, b < n ∧ c b = true ∧ bw_m (g b) i = true := by
  induction n with
  | zero => simp [bw_F]
  | succ n ih =>
    unfold bw_F
    by_cases h : c n = true
    · rw [if_pos h, bw_or, Bool.or_eq_true, ih]
      constructor
      · rintro ((h1 | ⟨b, h1, h2⟩) | h1)
        · exact Or.inl h1
        · exact Or.inr ⟨b, by omega, h2⟩
        · exact Or.inr ⟨n, by omega, h, h1⟩
      · rintro (h1 | ⟨b, h1, h2⟩)
        · exact Or.inl (Or.inl h1)
        · rcases Nat.lt_or_ge b n with z | z
          · exact Or.inl (Or.inr ⟨b, z, h2⟩)
          · have : b = n := by omega
            subst this; exact Or.inr h2.2
    · rw [if_neg h, ih]
      constructor
      · rintro (h1 | ⟨b, h1, h2⟩)
        · exact Or.inl h1
        · exact Or.inr ⟨b, by omega, h2⟩
      · rintro (h1 | ⟨b, h1, h2⟩)
        · exact Or.inl h1
        · rcases Nat.lt_or_ge b n with z | z
          · exact Or.inr ⟨b, z, h2⟩
          · have : b = n := by omega
            subst this; exact absurd h2.1 h
/-- .. of those in all -/
def bw_A (c : Nat → Bool) (g : Nat → Int64) (z : Int64) : Nat → Int64
  | 0 => z
  | n + 1 => if c n = true then bw_A c g z n &&& g n else bw_A c g z n
theorem bw_A_m (c : Nat → Bool) (g : Nat → Int64) (z : Int64) (n i : Nat) : bw_m (bw_A c g z n) i = true ↔ bw_m z i = true ∧ ∀ b, b < n → c b = true → bw_m (g b) i = true := by
  induction n with
  | zero => simp [bw_A]
  | succ n ih =>
    unfold bw_A
    by_cases h : c n = true
    · rw [if_pos h, bw_and, Bool.and_eq_true, ih]
      constructor
      · rintro ⟨⟨h1, h2⟩, h3⟩
        refine ⟨h1, fun b hb hc => ?_⟩
        rcases Nat.lt_or_ge b n with z | z
        · exact h2 b z hc
        · have : b = n := by omega
          subst this; exact h3
      · rintro ⟨h1, h2⟩
        exact ⟨⟨h1, fun b hb hc => h2 b (by omega) hc⟩, h2 n (by omega) h⟩
    · rw [if_neg h, ih]
      constructor
      · rintro ⟨h1, h2⟩
        refine ⟨h1, fun b hb hc => ?_⟩
        rcases Nat.lt_or_ge b n with z | z
        · exact h2 b z hc
        · have : b = n := by omega
          subst this; exact absurd hc h
      · rintro ⟨h1, h2⟩
        exact ⟨h1, fun b hb hc => h2 b (by omega) hc⟩
/-- how many blocks -/
def bw_N (c : Nat → Bool) : Nat → Nat
  | 0 => 0
  | n + 1 => if c n = true then bw_N c n + 1 else bw_N c n
theorem bw_N_le (c : Nat → Bool) (n : Nat) : bw_N c n ≤ n := by
  induction n with
  | zero => exact Nat.le_refl 0
  | succ n ih => unfold bw_N; split <;> omega
theorem bw_N_ext {c d : Nat → Bool} : ∀ {n : Nat}, (∀ i, i < n → c i = d i) → bw_N c n = bw_N d n := by
  intro n
  induction n with
  | zero => intro _; rfl
  | succ n ih => intro h; unfold bw_N; rw [ih (fun i hi => h i (by omega)), h n (by omega)]
theorem bw_N_c (x : Int64) (n : Nat) : bw_N (bw_m x) n = bw_c x n := by
  induction n with
  | zero => rfl
  | succ n ih =>
    show _ = bw_c x n + (bw_m x n).toNat
    unfold bw_N
    rw [ih]
    cases bw_m x n <;> simp
/-- the most -/
def bw_X (f : Nat → Nat) : Nat → Nat
  | 0 => 0
  | n + 1 => if bw_X f n < f n then f n else bw_X f n
theorem bw_X_le {f : Nat → Nat} {k : Nat} (h : ∀ i, f i ≤ k) : ∀ n, bw_X f n ≤ k := by
  intro n
  induction n with
  | zero => exact Nat.zero_le k
  | succ n ih => unfold bw_X; split; exact h n; exact ih
theorem bw_X_ext {f g : Nat → Nat} : ∀ {n : Nat}, (∀ i, i < n → f i = g i) → bw_X f n = bw_X g n := by
  intro n
  induction n with
  | zero => intro _; rfl
  | succ n ih => intro h; unfold bw_X; rw [ih (fun i hi => h i (by omega)), h n (by omega)]
end
section
/-! PURE 2: least closed sets, and what each way must go through -/
theorem bw_dif (x y : Int64) (i : Nat) : bw_m (x &&& (y ^^^ (-1))) i = (bw_m x i && !bw_m y i) := by
  rw [bw_and]
  rcases Nat.lt_or_ge i 64 with z | z
  · rw [bw_not y z]
  · rw [bw_big (x := x) z]; rfl
def bw_L (I : Nat → Prop) (E : Nat → Nat → Prop) (x : Nat) : Prop := ∀ S : Nat → Prop, (∀ i, I i → S i) → (∀ a b, S a → E a b → S b) → S x
theorem bw_L0 {I : Nat → Prop} {E : Nat → Nat → Prop} {x : Nat} (h : I x) : bw_L I E x := fun _ h0 _ => h0 x h
theorem bw_Ls {I : Nat → Prop} {E : Nat → Nat → Prop} {a b : Nat} (h : bw_L I E a) (e : E a b) : bw_L I E b := fun S h0 h1 => h1 a b (h S h0 h1) e
theorem bw_Li {I : Nat → Prop} {E : Nat → Nat → Prop} (S : Nat → Prop) (h0 : ∀ i, I i → S i) (h1 : ∀ a b, bw_L I E a → S a → E a b → S b) {x : Nat} (h : bw_L I E x) : S x :=
  (h (fun z => bw_L I E z ∧ S z) (fun i hi => ⟨bw_L0 hi, h0 i hi⟩) (fun a b ha e => ⟨bw_Ls ha.1 e, h1 a b ha.1 ha.2 e⟩)).2
theorem bw_Lc {I I' : Nat → Prop} {E E' : Nat → Nat → Prop} (h0 : ∀ i, I i → I' i) (h1 : ∀ a b, bw_L I E a → E a b → E' a b) {x : Nat} (h : bw_L I E x) : bw_L I' E' x :=
  bw_Li (fun z => bw_L I' E' z) (fun _ hi => bw_L0 (h0 _ hi)) (fun a b ha hs he => bw_Ls hs (h1 a b ha he)) h
/-- ways that don't go through w -/
def bw_G (I : Nat → Prop) (E : Nat → Nat → Prop) (w : Option Nat) : Nat → Prop := bw_L (fun i => I i ∧ w ≠ some i) (fun a b => E a b ∧ w ≠ some b)
theorem bw_G_up {I : Nat → Prop} {E : Nat → Nat → Prop} {w : Option Nat} {x : Nat} (h : bw_G I E w x) : bw_G I E none x :=
  bw_Lc (fun i hi => ⟨hi.1, by simp⟩) (fun a b _ he => ⟨he.1, by simp⟩) h
theorem bw_G_ne {I : Nat → Prop} {E : Nat → Nat → Prop} {w x : Nat} (h : bw_G I E (some w) x) : w ≠ x :=
  bw_Li (fun z => w ≠ z) (fun _ hi e => hi.2 (by rw [e])) (fun _ _ _ _ he e => he.2 (by rw [e])) h
/-- each way to x goes through d -/
def bw_D (I : Nat → Prop) (E : Nat → Nat → Prop) (d x : Nat) : Prop := bw_G I E none d ∧ bw_G I E none x ∧ ¬ bw_G I E (some d) x
theorem bw_D_self {I : Nat → Prop} {E : Nat → Nat → Prop} {x : Nat} (h : bw_G I E none x) : bw_D I E x x := ⟨h, h, fun z => bw_G_ne z rfl⟩
theorem bw_D_trans {I : Nat → Prop} {E : Nat → Nat → Prop} {x y z : Nat} (h1 : bw_D I E x y) (h2 : bw_D I E y z) : bw_D I E x z := by
  refine ⟨h1.1, h2.2.1, fun h => h2.2.2 ?_⟩
  have key : ∀ {v : Nat}, bw_G I E (some x) v → bw_G I E (some y) v := fun {v} hv =>
    bw_Li (fun v => bw_G I E (some y) v)
      (fun i hi => bw_L0 ⟨hi.1, fun e => h1.2.2 (by cases e; exact bw_L0 hi)⟩)
      (fun a b ha hs he => bw_Ls hs ⟨he.1, fun e => h1.2.2 (by cases e; exact bw_Ls ha he)⟩) hv
  exact key h
theorem bw_D_anti {I : Nat → Prop} {E : Nat → Nat → Prop} {x y : Nat} (h1 : bw_D I E x y) (h2 : bw_D I E y x) : x = y := by
  by_cases hne : x = y
  · exact hne
  exfalso
  have key : ∀ {v : Nat}, bw_G I E none v → (bw_G I E (some x) v ∧ bw_G I E (some y) v) ∨ bw_G I E (some y) x ∨ bw_G I E (some x) y := fun {v} hv => by
    refine bw_Li (fun v => (bw_G I E (some x) v ∧ bw_G I E (some y) v) ∨ bw_G I E (some y) x ∨ bw_G I E (some x) y) ?_ ?_ hv
    · intro i hi
      by_cases e1 : x = i
      · subst e1
        exact Or.inr (Or.inl (bw_L0 ⟨hi.1, fun e => hne (by cases e; rfl)⟩))
      · by_cases e2 : y = i
        · subst e2
          exact Or.inr (Or.inr (bw_L0 ⟨hi.1, fun e => hne (by cases e; rfl)⟩))
        · exact Or.inl ⟨bw_L0 ⟨hi.1, fun e => e1 (by cases e; rfl)⟩, bw_L0 ⟨hi.1, fun e => e2 (by cases e; rfl)⟩⟩
    · intro a b _ hs he
      rcases hs with ⟨s1, s2⟩ | hs
      · by_cases e1 : x = b
        · subst e1
          exact Or.inr (Or.inl (bw_Ls s2 ⟨he.1, fun e => hne (by cases e; rfl)⟩))
        · by_cases e2 : y = b
          · subst e2
            exact Or.inr (Or.inr (bw_Ls s1 ⟨he.1, fun e => hne (by cases e; rfl)⟩))
          · exact Or.inl ⟨bw_Ls s1 ⟨he.1, fun e => e1 (by cases e; rfl)⟩, bw_Ls s2 ⟨he.1, fun e => e2 (by cases e; rfl)⟩⟩
      · exact Or.inr hs
  rcases key h1.1 with ⟨k, -⟩ | k | k
  · exact bw_G_ne k rfl
  · exact h2.2.2 k
  · exact h1.2.2 k
/-! the class's flood -/
def bw_fl (st : Nat → Int64) (al : Int64) : Nat → Int64 → Int64 → Int64
  | 0, f, _ => f
  | n + 1, f, o => if bw_lo o < 40 then bw_fl st al n (f ||| ((st (bw_lo o) &&& al) &&& (f ^^^ (-1)))) ((o &&& (bw_b (bw_lo o) ^^^ (-1))) ||| ((st (bw_lo o) &&& al) &&& (f ^^^ (-1)))) else f
def bw_flood (st : Nat → Int64) (fi al : Int64) : Int64 := bw_fl st al 40 (fi &&& al) (fi &&& al)
theorem bw_fl_end {st : Nat → Int64} {al f : Int64} {I : Nat → Prop} (hL : ∀ i, bw_m f i = true → bw_L I (fun a b => bw_m (st a) b = true ∧ bw_m al b = true) i) (hI : ∀ i, I i → bw_m f i = true)
    (hc : ∀ a b, bw_m f a = true → (bw_m (st a) b = true ∧ bw_m al b = true) → bw_m f b = true) (i : Nat) : bw_m f i = true ↔ bw_L I (fun a b => bw_m (st a) b = true ∧ bw_m al b = true) i :=
  ⟨hL i, fun h => bw_Li (fun z => bw_m f z = true) hI (fun a b _ hs he => hc a b hs he) h⟩
theorem bw_fl_spec {st : Nat → Int64} {al : Int64} {I : Nat → Prop} (h40 : ∀ i, bw_m al i = true → i < 40) : ∀ (n : Nat) (f o : Int64),
    (∀ i, bw_m o i = true → bw_m f i = true) → (∀ i, bw_m f i = true → bw_m al i = true) → (∀ i, bw_m f i = true → bw_L I (fun a b => bw_m (st a) b = true ∧ bw_m al b = true) i) → (∀ i, I i → bw_m f i = true) →
    (∀ a b, bw_m f a = true → bw_m o a = false → (bw_m (st a) b = true ∧ bw_m al b = true) → bw_m f b = true) → 40 ≤ n + bw_c (f &&& (o ^^^ (-1))) 40 →
    ∀ i, bw_m (bw_fl st al n f o) i = true ↔ bw_L I (fun a b => bw_m (st a) b = true ∧ bw_m al b = true) i := by
  intro n
  induction n with
  | zero =>
    intro f o ho hal hL hI hc hn i
    refine bw_fl_end hL hI (fun a b ha he => hc a b ha ?_ he) i
    have h1 := bw_c_full (x := f &&& (o ^^^ (-1))) (n := 40) (by omega) a (h40 a (hal a ha))
    rw [bw_dif] at h1
    simp only [Bool.and_eq_true, Bool.not_eq_true'] at h1
    exact h1.2
  | succ n ih =>
    intro f o ho hal hL hI hc hn i
    unfold bw_fl
    by_cases hb : bw_lo o < 40
    · rw [if_pos hb]
      have hob := (bw_lo_lt (x := o) (by omega)).1
      generalize bw_lo o = b at hb hob ⊢
      have hfb := ho b hob
      have hF : ∀ j, bw_m ((st b &&& al) &&& (f ^^^ (-1))) j = ((bw_m (st b) j && bw_m al j) && !bw_m f j) := fun j => by rw [bw_dif, bw_and]
      generalize (st b &&& al) &&& (f ^^^ (-1)) = F at hF ⊢
      have hO : ∀ j, bw_m ((o &&& (bw_b b ^^^ (-1))) ||| F) j = ((bw_m o j && !decide (b = j)) || bw_m F j) := fun j => by rw [bw_or, bw_dif, bw_bit (by omega)]
      have hf : ∀ j, bw_m (f ||| F) j = (bw_m f j || bw_m F j) := fun j => bw_or f F j
      refine ih (f ||| F) ((o &&& (bw_b b ^^^ (-1))) ||| F) ?_ ?_ ?_ ?_ ?_ ?_ i
      · intro j hj
        rw [hO] at hj; rw [hf]
        simp only [Bool.or_eq_true, Bool.and_eq_true] at hj ⊢
        rcases hj with hj | hj
        · exact Or.inl (ho j hj.1)
        · exact Or.inr hj
      · intro j hj
        rw [hf, hF] at hj
        simp only [Bool.or_eq_true, Bool.and_eq_true] at hj
        rcases hj with hj | hj
        · exact hal j hj
        · exact hj.1.2
      · intro j hj
        rw [hf, hF] at hj
        simp only [Bool.or_eq_true, Bool.and_eq_true] at hj
        rcases hj with hj | hj
        · exact hL j hj
        · exact bw_Ls (hL b hfb) hj.1
      · intro j hj
        rw [hf, hI j hj]; rfl
      · intro a c ha hoa he
        rw [hf] at ha
        rw [hO] at hoa
        simp only [Bool.or_eq_true, Bool.or_eq_false_iff] at ha hoa
        rw [hf]
        have ha : bw_m f a = true := by
          rcases ha with ha | ha
          · exact ha
          · rw [hoa.2] at ha; cases ha
        by_cases e : b = a
        · subst e
          rw [hF, he.1, he.2]
          cases bw_m f c <;> rfl
        · have h1 : bw_m o a = false := by
            have := hoa.1
            simpa [e] using this
          rw [hc a c ha h1 he]; rfl
      · have h1 : bw_c (f &&& (o ^^^ (-1))) 40 < bw_c ((f ||| F) &&& (((o &&& (bw_b b ^^^ (-1))) ||| F) ^^^ (-1))) 40 := by
          refine bw_c_lt (fun j _ hj => ?_) ⟨b, hb, ?_, ?_⟩
          · rw [bw_dif] at hj ⊢
            rw [hf, hO, hF]
            simp only [Bool.and_eq_true, Bool.not_eq_true'] at hj
            rw [hj.1, hj.2]; simp
          · rw [bw_dif, hob]; simp
          · rw [bw_dif, hf, hO, hF, hfb, hob]; simp
        omega
    · rw [if_neg hb]
      refine bw_fl_end hL hI (fun a b ha he => hc a b ha ?_ he) i
      exact bw_lo_ge hb a (h40 a (hal a ha))
theorem bw_flood_spec {st : Nat → Int64} {fi al : Int64} (h40 : ∀ i, bw_m al i = true → i < 40) (i : Nat) :
    bw_m (bw_flood st fi al) i = true ↔ bw_L (fun i => bw_m fi i = true ∧ bw_m al i = true) (fun a b => bw_m (st a) b = true ∧ bw_m al b = true) i := by
  have hx : ∀ j, bw_m (fi &&& al) j = (bw_m fi j && bw_m al j) := bw_and fi al
  refine bw_fl_spec h40 40 _ _ (fun j h => h) (fun j h => ?_) (fun j h => bw_L0 ?_) (fun j h => ?_) (fun a b h1 h2 => ?_) (by omega) i
  · rw [hx, Bool.and_eq_true] at h; exact h.2
  · rw [hx, Bool.and_eq_true] at h; exact h
  · rw [hx, Bool.and_eq_true]; exact h
  · rw [h1] at h2; cases h2
/-- the ways of a Spread: from the first blocks, over those told -/
def bw_I (fi T : Int64) (i : Nat) : Prop := bw_m fi i = true ∧ bw_m T i = true
def bw_E (st : Nat → Int64) (T : Int64) (a b : Nat) : Prop := bw_m (st a) b = true ∧ bw_m T b = true
theorem bw_cov {st : Nat → Int64} {fi T : Int64} (h40 : ∀ i, bw_m T i = true → i < 40) (i : Nat) : bw_m (bw_flood st fi T) i = true ↔ bw_G (bw_I fi T) (bw_E st T) none i := by
  rw [bw_flood_spec h40]
  exact ⟨fun h => bw_Lc (fun j hj => ⟨hj, by simp⟩) (fun a b _ he => ⟨he, by simp⟩) h, fun h => bw_Lc (fun j hj => hj.1) (fun a b _ he => he.1) h⟩
theorem bw_G_T {st : Nat → Int64} {fi T : Int64} {w : Option Nat} {i : Nat} (h : bw_G (bw_I fi T) (bw_E st T) w i) : bw_m T i = true :=
  bw_Li (fun z => bw_m T z = true) (fun _ hi => hi.1.2) (fun _ _ _ _ he => he.1.2) h
/-- Spread.gated -/
def bw_gt (st : Nat → Int64) (fi c : Int64) (d : Nat) : Int64 := if bw_m c d = true then c &&& (bw_flood st fi (c &&& (bw_b d ^^^ (-1))) ^^^ (-1)) else 0
theorem bw_gt_spec {st : Nat → Int64} {fi T : Int64} (h40 : ∀ i, bw_m T i = true → i < 40) {d : Nat} (hd : d < 40) (i : Nat) :
    bw_m (bw_gt st fi (bw_flood st fi T) d) i = true ↔ bw_D (bw_I fi T) (bw_E st T) d i := by
  have hc : ∀ i, bw_m (bw_flood st fi T) i = true ↔ bw_G (bw_I fi T) (bw_E st T) none i := bw_cov h40
  unfold bw_gt
  generalize bw_flood st fi T = c at hc ⊢
  by_cases h : bw_m c d = true
  · rw [if_pos h, bw_dif, Bool.and_eq_true]
    have ha : ∀ j, bw_m (c &&& (bw_b d ^^^ (-1))) j = true ↔ bw_G (bw_I fi T) (bw_E st T) none j ∧ d ≠ j := fun j => by
      rw [bw_dif, bw_bit (by omega), Bool.and_eq_true, hc]; simp
    have h2 : bw_m (bw_flood st fi (c &&& (bw_b d ^^^ (-1)))) i = true ↔ bw_G (bw_I fi T) (bw_E st T) (some d) i := by
      rw [bw_flood_spec (fun j hj => h40 j (bw_G_T ((ha j).mp hj).1))]
      constructor
      · refine bw_Lc (fun j hj => ?_) (fun a b _ he => ?_)
        · have := (ha j).mp hj.2
          exact ⟨⟨hj.1, bw_G_T this.1⟩, fun e => this.2 (Option.some.inj e)⟩
        · have := (ha b).mp he.2
          exact ⟨⟨he.1, bw_G_T this.1⟩, fun e => this.2 (Option.some.inj e)⟩
      · refine bw_Lc (fun j hj => ⟨hj.1.1, (ha j).mpr ⟨bw_L0 ⟨hj.1, by simp⟩, fun e => hj.2 (by rw [e])⟩⟩) (fun a b hl he => ⟨he.1.1, (ha b).mpr ⟨bw_Ls (bw_G_up hl) ⟨he.1, by simp⟩, fun e => he.2 (by rw [e])⟩⟩)
    unfold bw_D
    rw [← hc d, ← hc i]
    constructor
    · rintro ⟨q1, q2⟩
      refine ⟨h, q1, fun z => ?_⟩
      rw [h2.mpr z] at q2; cases q2
    · rintro ⟨-, q1, q2⟩
      refine ⟨q1, ?_⟩
      cases hx : bw_m (bw_flood st fi (c &&& (bw_b d ^^^ (-1)))) i with
      | false => rfl
      | true => exact absurd (h2.mp hx) q2
  · rw [if_neg h, bw_0]
    constructor
    · intro z; cases z
    · intro z; exact absurd ((hc d).mpr z.1) h
/-! the reference's rounds to a fixed point -/
theorem bw_fix {nx : Int64 → Int64} {s0 r : Int64} {I : Nat → Prop} {E : Nat → Nat → Prop} (J : Int64 → Prop) (hr : ∀ P : Int64 → Prop, P s0 → (∀ s, P s → P (nx s)) → P r) (hf : nx r = r)
    (hJ0 : J s0) (hJ : ∀ s, J s → J (nx s)) (h0 : ∀ i, bw_m s0 i = true ↔ I i) (hs : ∀ s i, J s → (bw_m (nx s) i = true ↔ (bw_m s i = true ∨ ∃ a, bw_m s a = true ∧ E a i))) (i : Nat) : bw_m r i = true ↔ bw_L I E i := by
  have k1 : J r ∧ (∀ i, bw_m r i = true → bw_L I E i) ∧ ∀ i, I i → bw_m r i = true := by
    refine hr (fun x => J x ∧ (∀ i, bw_m x i = true → bw_L I E i) ∧ ∀ i, I i → bw_m x i = true) ⟨hJ0, fun i h => bw_L0 ((h0 i).mp h), fun i h => (h0 i).mpr h⟩ (fun s hs9 => ?_)
    refine ⟨hJ s hs9.1, fun i h => ?_, fun i h => (hs s i hs9.1).mpr (Or.inl (hs9.2.2 i h))⟩
    rcases (hs s i hs9.1).mp h with h | ⟨a, h1, h2⟩
    · exact hs9.2.1 i h
    · exact bw_Ls (hs9.2.1 a h1) h2
  refine ⟨k1.2.1 i, fun h => bw_Li (fun z => bw_m r z = true) k1.2.2 (fun a b _ hs9 he => ?_) h⟩
  rw [← hf]
  exact (hs r b k1.1).mpr (Or.inr ⟨a, hs9, he⟩)
end
section
/-! PURE 4: the class's sets and the reference's are the same sets -/
/-- the reference's loops, with sets that come in at every turn -/
theorem bw_fix2 {nx : Int64 → Int64} {s0 r : Int64} {I : Nat → Prop} {E : Nat → Nat → Prop} (J : Int64 → Prop) (hr : ∀ P : Int64 → Prop, P s0 → (∀ s, P s → P (nx s)) → P r) (hf : nx r = r)
    (hJ0 : J s0) (hJ : ∀ s, J s → J (nx s)) (h0 : ∀ i, bw_m s0 i = true → I i) (hs : ∀ s i, J s → (bw_m (nx s) i = true ↔ (bw_m s i = true ∨ I i ∨ ∃ a, bw_m s a = true ∧ E a i))) (i : Nat) : bw_m r i = true ↔ bw_L I E i := by
  have k1 : J r ∧ ∀ i, bw_m r i = true → bw_L I E i := by
    refine hr (fun x => J x ∧ ∀ i, bw_m x i = true → bw_L I E i) ⟨hJ0, fun i h => bw_L0 (h0 i h)⟩ (fun s hs9 => ?_)
    refine ⟨hJ s hs9.1, fun i h => ?_⟩
    rcases (hs s i hs9.1).mp h with h | h | ⟨a, h1, h2⟩
    · exact hs9.2 i h
    · exact bw_L0 h
    · exact bw_Ls (hs9.2 a h1) h2
  refine ⟨k1.2 i, fun h => bw_Li (fun z => bw_m r z = true) (fun j hj => ?_) (fun a b _ hs9 he => ?_) h⟩
  · rw [← hf]
    exact (hs r j k1.1).mpr (Or.inr (Or.inl hj))
  · rw [← hf]
    exact (hs r b k1.1).mpr (Or.inr (Or.inr ⟨a, hs9, he⟩))
/-- the reference's steps: those between blocks that are told -/
def bw_ms (T : Int64) (st ms : Nat → Int64) : Prop := ∀ b, b < 40 → ∀ i, bw_m (ms b) i = true ↔ bw_m T b = true ∧ bw_m (st b) i = true ∧ bw_m T i = true
/-- steps and steps back -/
def bw_sb (st sb : Nat → Int64) : Prop := (∀ a b, a < 40 → b < 40 → (bw_m (sb b) a = true ↔ bw_m (st a) b = true)) ∧ (∀ b a, b < 40 → bw_m (sb b) a = true → a < 40) ∧ ∀ a b, a < 40 → bw_m (st a) b = true → b < 40
def bw_40 (T : Int64) : Prop := ∀ i, bw_m T i = true → i < 40
def bw_off (T : Int64) (st : Nat → Int64) : Prop := ∀ a, a < 40 → bw_m T a = false → st a = 0
/-- a loop's end: a fixed point, with all that the turns keep -/
def bw_Lp (nx : Int64 → Int64) (s0 r : Int64) : Prop := (∀ P : Int64 → Prop, P s0 → (∀ s, P s → P (nx s)) → P r) ∧ nx r = r
/-- comeTo -/
def bw_cn (ms : Nat → Int64) (w : Option Nat) (s : Int64) : Int64 := match w with
  | none => bw_F (bw_m s) ms s 40
  | some d => bw_F (bw_m s) ms s 40 &&& (bw_b d ^^^ (-1))
def bw_c0 (T : Int64) (w : Option Nat) : Int64 := if w = some 0 then 0 else T &&& 1
theorem bw_come {T : Int64} {st ms : Nat → Int64} {w : Option Nat} {r : Int64} (h40 : bw_40 T) (hm : bw_ms T st ms) (hw : ∀ d, w = some d → d < 40) (h : bw_Lp (bw_cn ms w) (bw_c0 T w) r) (i : Nat) :
    bw_m r i = true ↔ bw_G (bw_I (bw_b 0) T) (bw_E st T) w i := by
  have hF : ∀ s i, bw_m (bw_cn ms w s) i = true ↔ (bw_m s i = true ∨ ∃ a, a < 40 ∧ bw_m s a = true ∧ bw_m (ms a) i = true) ∧ w ≠ some i := by
    intro s i
    cases w with
    | none => unfold bw_cn; dsimp only; rw [bw_F_m]; simp
    | some d =>
      unfold bw_cn; dsimp only
      rw [bw_dif, Bool.and_eq_true, bw_F_m, bw_bit (by have := hw d rfl; omega)]; simp
  have h0 : ∀ i, bw_m (bw_c0 T w) i = true ↔ bw_I (bw_b 0) T i ∧ w ≠ some i := by
    intro i
    unfold bw_c0 bw_I
    by_cases e : w = some 0
    · rw [if_pos e, bw_0, bw_bit (by omega), e]
      constructor
      · intro z; cases z
      · rintro ⟨⟨a, -⟩, b⟩
        simp only [decide_eq_true_eq] at a
        exact absurd (by rw [a]) b
    · rw [if_neg e, bw_and, Bool.and_eq_true, bw_bit (by omega), bw_one]
      constructor
      · rintro ⟨a, b⟩
        refine ⟨⟨b, a⟩, ?_⟩
        simp only [decide_eq_true_eq] at b
        rw [← b]; exact e
      · rintro ⟨⟨a, b⟩, -⟩; exact ⟨b, a⟩
  refine bw_fix (I := fun i => bw_I (bw_b 0) T i ∧ w ≠ some i) (E := fun a b => bw_E st T a b ∧ w ≠ some b) (fun s => ∀ i, bw_m s i = true → bw_m T i = true ∧ w ≠ some i) h.1 h.2 (fun i hi => ?_) (fun s hs i hi => ?_) h0 (fun s i hs => ?_) i
  · have := (h0 i).mp hi
    exact ⟨this.1.2, this.2⟩
  · have hi := (hF s i).mp hi
    refine ⟨?_, hi.2⟩
    rcases hi.1 with q | ⟨a, q1, q2, q3⟩
    · exact (hs i q).1
    · exact ((hm a q1 i).mp q3).2.2
  · rw [hF]
    constructor
    · rintro ⟨q | ⟨a, q1, q2, q3⟩, q4⟩
      · exact Or.inl q
      · have := (hm a q1 i).mp q3
        exact Or.inr ⟨a, q2, ⟨this.2.1, this.2.2⟩, q4⟩
    · rintro (q | ⟨a, q1, q2, q3⟩)
      · exact ⟨Or.inl q, (hs i q).2⟩
      · have ha := (hs a q1).1
        exact ⟨Or.inr ⟨a, h40 a ha, q1, (hm a (h40 a ha) i).mpr ⟨ha, q2.1, q2.2⟩⟩, q3⟩
/-- leadTo -/
def bw_nt (w : Option Nat) : Int64 := match w with
  | none => 0
  | some d => bw_b d
def bw_ln (T : Int64) (ms : Nat → Int64) (nt s : Int64) : Int64 := bw_F (fun b => bw_m (T &&& (nt ^^^ (-1))) b && !decide ((ms b &&& s) = 0)) bw_b s 40
theorem bw_meet {x y : Int64} : (!decide ((x &&& y) = 0)) = true ↔ ∃ i, bw_m x i = true ∧ bw_m y i = true := by
  rw [Bool.not_eq_true', decide_eq_false_iff_not]
  constructor
  · intro h
    obtain ⟨i, -, hi⟩ := bw_nz h
    rw [bw_and, Bool.and_eq_true] at hi
    exact ⟨i, hi⟩
  · rintro ⟨i, h1, h2⟩ h
    have : bw_m (x &&& y) i = true := by rw [bw_and, h1, h2]; rfl
    rw [h, bw_0] at this; cases this
theorem bw_nt_m {w : Option Nat} (hw : ∀ d, w = some d → d < 40) (x : Int64) (i : Nat) : bw_m (x &&& (bw_nt w ^^^ (-1))) i = true ↔ bw_m x i = true ∧ w ≠ some i := by
  cases w with
  | none => rw [bw_dif]; unfold bw_nt; dsimp only; rw [bw_0]; simp
  | some d =>
    rw [bw_dif]; unfold bw_nt; dsimp only
    rw [bw_bit (by have := hw d rfl; omega)]; simp
theorem bw_lead {T so : Int64} {ms : Nat → Int64} {w : Option Nat} {r : Int64} (hw : ∀ d, w = some d → d < 40) (h : bw_Lp (bw_ln T ms (bw_nt w)) (so &&& (bw_nt w ^^^ (-1))) r) (i : Nat) :
    bw_m r i = true ↔ bw_L (fun i => bw_m so i = true ∧ w ≠ some i) (fun a b => b < 40 ∧ (bw_m T b = true ∧ w ≠ some b) ∧ bw_m (ms b) a = true) i := by
  refine bw_fix (fun _ => True) h.1 h.2 trivial (fun _ _ => trivial) (fun i => bw_nt_m hw so i) (fun s i _ => ?_) i
  unfold bw_ln
  rw [bw_F_m]
  constructor
  · rintro (q | ⟨b, q1, q2, q3⟩)
    · exact Or.inl q
    · rw [bw_bit (by omega)] at q3
      simp only [decide_eq_true_eq] at q3
      subst q3
      rw [Bool.and_eq_true, bw_nt_m hw, bw_meet] at q2
      obtain ⟨q2, a, q3, q4⟩ := q2
      exact Or.inr ⟨a, q4, q1, q2, q3⟩
  · rintro (q | ⟨a, q1, q2, q3, q4⟩)
    · exact Or.inl q
    · refine Or.inr ⟨i, q2, ?_, ?_⟩
      · rw [Bool.and_eq_true, bw_nt_m hw, bw_meet]
        exact ⟨q3, a, q4, q1⟩
      · rw [bw_bit (by omega)]; simp
theorem bw_leadE {T en : Int64} {st sb ms : Nat → Int64} {w : Option Nat} {r : Int64} (h40 : bw_40 T) (hm : bw_ms T st ms) (hsb : bw_sb st sb) (hen : ∀ i, bw_m en i = true → bw_m T i = true) (hw : ∀ d, w = some d → d < 40)
    (h : bw_Lp (bw_ln T ms (bw_nt w)) (en &&& (bw_nt w ^^^ (-1))) r) (i : Nat) : bw_m r i = true ↔ bw_G (bw_I en T) (bw_E sb T) w i := by
  rw [bw_lead hw h]
  constructor
  · refine bw_Lc (fun j hj => ⟨⟨hj.1, hen j hj.1⟩, hj.2⟩) (fun a b ha he => ?_)
    have q := (hm b he.1 a).mp he.2.2
    exact ⟨⟨(hsb.1 b a he.1 (h40 a q.2.2)).mpr q.2.1, q.1⟩, he.2.1.2⟩
  · refine bw_Lc (fun j hj => ⟨hj.1.1, hj.2⟩) (fun a b ha he => ?_)
    have hTa : bw_m T a = true := bw_G_T ha
    have hb := h40 b he.1.2
    exact ⟨hb, ⟨he.1.2, he.2⟩, (hm b hb a).mpr ⟨he.1.2, (hsb.1 b a hb (h40 a hTa)).mp he.1.1, hTa⟩⟩
/-- over, behind: the other way round -/
def bw_ovS (D : Nat → Nat → Prop) (ov : Nat → Int64) : Prop := ∀ b, b < 40 → ∀ d, bw_m (ov b) d = true ↔ d < 40 ∧ D d b
/-- gates = over -/
def bw_gates (gt : Nat → Int64) (b : Nat) : Int64 := bw_F (fun d => bw_m (gt d) b) bw_b 0 40
theorem bw_gates_m {gt : Nat → Int64} {D : Nat → Nat → Prop} (hg : ∀ d, d < 40 → ∀ i, bw_m (gt d) i = true ↔ D d i) (b d : Nat) : bw_m (bw_gates gt b) d = true ↔ d < 40 ∧ D d b := by
  unfold bw_gates
  rw [bw_F_m, bw_0]
  constructor
  · rintro (q | ⟨e, q1, q2, q3⟩)
    · cases q
    · rw [bw_bit (by omega)] at q3
      simp only [decide_eq_true_eq] at q3
      subst q3
      exact ⟨q1, (hg e q1 b).mp q2⟩
  · rintro ⟨q1, q2⟩
    refine Or.inr ⟨d, q1, (hg d q1 b).mpr q2, ?_⟩
    rw [bw_bit (by omega)]; simp
theorem bw_meq {x y : Int64} (h : ∀ i, bw_m x i = true ↔ bw_m y i = true) : x = y := bw_ext fun i _ => by
  have := h i
  cases hx : bw_m x i <;> cases hy : bw_m y i <;> simp_all
theorem bw_over_eq {gt ov : Nat → Int64} {D : Nat → Nat → Prop} (hg : ∀ d, d < 40 → ∀ i, bw_m (gt d) i = true ↔ D d i) (ho : bw_ovS D ov) {b : Nat} (hb : b < 40) : bw_gates gt b = ov b :=
  bw_meq fun d => by rw [bw_gates_m hg, ho b hb]
/-- Spread.nearestGate and the reference's nearest -/
def bw_near (gt : Nat → Int64) (b : Nat) : Int64 := bw_A (bw_m (bw_gates gt b &&& (bw_b b ^^^ (-1)))) gt (bw_gates gt b &&& (bw_b b ^^^ (-1))) 40
def bw_nearA (gt : Nat → Int64) (b : Nat) : Int32 := if bw_near gt b = 0 then -1 else nI (bw_lo (bw_near gt b))
/-- an early return at the first of them, else -1 -/
def bw_first (P : Nat → Bool) (r : Int32) : Prop := (∃ d, d < 40 ∧ P d = true ∧ (∀ j, j < d → P j = false) ∧ r = nI d) ∨ ((∀ d, d < 40 → P d = false) ∧ r = -1)
def bw_nP (ov : Nat → Int64) (b d : Nat) : Bool := bw_m (ov b &&& (bw_b b ^^^ (-1))) d && decide (ov d = ov b &&& (bw_b b ^^^ (-1)))
theorem bw_near_eq {gt ov : Nat → Int64} {I : Nat → Prop} {E : Nat → Nat → Prop} (hg : ∀ d, d < 40 → ∀ i, bw_m (gt d) i = true ↔ bw_D I E d i) (ho : bw_ovS (bw_D I E) ov) {b : Nat} (hb : b < 40) {r : Int32}
    (h : bw_first (bw_nP ov b) r) : bw_nearA gt b = r := by
  have e := bw_over_eq hg ho hb
  have hN : ∀ x, bw_m (bw_near gt b) x = true ↔ x < 40 ∧ bw_nP ov b x = true := by
    intro x
    unfold bw_near
    rw [bw_A_m, e]
    have ho' : ∀ z, bw_m (ov b &&& (bw_b b ^^^ (-1))) z = true ↔ (z < 40 ∧ bw_D I E z b) ∧ b ≠ z := fun z => by
      rw [bw_dif, Bool.and_eq_true, ho b hb, bw_bit (by omega)]; simp
    unfold bw_nP
    rw [Bool.and_eq_true, ho', decide_eq_true_eq]
    constructor
    · rintro ⟨⟨⟨q1, q2⟩, q3⟩, q4⟩
      refine ⟨q1, ⟨⟨q1, q2⟩, q3⟩, bw_meq fun y => ?_⟩
      rw [ho x q1, ho']
      constructor
      · rintro ⟨y1, y2⟩
        refine ⟨⟨y1, bw_D_trans y2 q2⟩, fun ey => q3 ?_⟩
        subst ey
        exact bw_D_anti y2 q2
      · rintro ⟨⟨y1, y2⟩, y3⟩
        exact ⟨y1, (hg y y1 x).mp (q4 y y1 ((ho' y).mpr ⟨⟨y1, y2⟩, y3⟩))⟩
    · rintro ⟨q1, q2, q3⟩
      refine ⟨q2, fun y y1 y2 => ?_⟩
      rw [← q3] at y2
      exact (hg y y1 x).mpr ((ho x q1 y).mp y2).2
  unfold bw_nearA
  rcases h with ⟨d, h1, h2, h3, h4⟩ | ⟨h1, h2⟩
  · have hd := (hN d).mpr ⟨h1, h2⟩
    have hne : ¬ bw_near gt b = 0 := fun z => by rw [z, bw_0] at hd; cases hd
    rw [if_neg hne, h4, bw_loT hd (fun j hj => ?_)]
    cases hx : bw_m (bw_near gt b) j with
    | false => rfl
    | true => have := (hN j).mp hx; rw [h3 j hj] at this; cases this.2
  · have : bw_near gt b = 0 := bw_z.mpr fun i => by
      cases hx : bw_m (bw_near gt b) i with
      | false => rfl
      | true => have := (hN i).mp hx; rw [h1 i this.1] at this; cases this.2
    rw [if_pos this, h2]
/-- Spread.rim, and the reference's edges -/
def bw_rim (st gt : Nat → Int64) (cv : Int64) (b : Nat) : Int64 := (bw_F (bw_m (gt b)) st 0 40 &&& cv) &&& ((gt b &&& (bw_b b ^^^ (-1))) ^^^ (-1))
theorem bw_rim_m {st gt : Nat → Int64} {cv : Int64} {b : Nat} (hb : b < 40) (x : Nat) : bw_m (bw_rim st gt cv b) x = true ↔ ((∃ f, f < 40 ∧ bw_m (gt b) f = true ∧ bw_m (st f) x = true) ∧ bw_m cv x = true) ∧ (bw_m (gt b) x = false ∨ b = x) := by
  unfold bw_rim
  rw [bw_dif, bw_dif, bw_bit (by omega), bw_and, Bool.and_eq_true, Bool.and_eq_true, bw_F_m, bw_0]
  have : (!(bw_m (gt b) x && !decide (b = x))) = true ↔ (bw_m (gt b) x = false ∨ b = x) := by
    cases bw_m (gt b) x <;> simp
  rw [this]
  simp
/-- edges[b] of the reference -/
def bw_edS (ms ov ed : Nat → Int64) : Prop := ∀ b, b < 40 → ∀ x, bw_m (ed b) x = true ↔ ∃ y, y < 40 ∧ bw_m (ov y) b = true ∧ x < 40 ∧ bw_m (ms y) x = true ∧ (bw_m (ov x) b = false ∨ x = b)
theorem bw_edge_eq {T : Int64} {st ms gt ov ed : Nat → Int64} {cv : Int64} (h40 : bw_40 T) (hm : bw_ms T st ms) (hc : ∀ i, bw_m cv i = true ↔ bw_G (bw_I (bw_b 0) T) (bw_E st T) none i)
    (hg : ∀ d, d < 40 → ∀ i, bw_m (gt d) i = true ↔ bw_D (bw_I (bw_b 0) T) (bw_E st T) d i) (ho : bw_ovS (bw_D (bw_I (bw_b 0) T) (bw_E st T)) ov) (he : bw_edS ms ov ed) {b : Nat} (hb : b < 40) : bw_rim st gt cv b = ed b := by
  refine bw_meq fun x => ?_
  rw [bw_rim_m hb, he b hb]
  constructor
  · rintro ⟨⟨⟨f, q1, q2, q3⟩, q4⟩, q5⟩
    have d1 := (hg b hb f).mp q2
    have t1 := bw_G_T ((hc x).mp q4)
    refine ⟨f, q1, (ho f q1 b).mpr ⟨hb, d1⟩, h40 x t1, (hm f q1 x).mpr ⟨bw_G_T d1.2.1, q3, t1⟩, ?_⟩
    rcases q5 with q5 | q5
    · left
      cases hx : bw_m (ov x) b with
      | false => rfl
      | true =>
        have := (hg b hb x).mpr ((ho x (h40 x t1) b).mp hx).2
        rw [q5] at this; cases this
    · exact Or.inr q5.symm
  · rintro ⟨y, q1, q2, q3, q4, q5⟩
    have d1 := ((ho y q1 b).mp q2).2
    have m1 := (hm y q1 x).mp q4
    refine ⟨⟨⟨y, q1, (hg b hb y).mpr d1, m1.2.1⟩, (hc x).mpr (bw_Ls d1.2.1 ⟨⟨m1.2.1, m1.2.2⟩, by simp⟩)⟩, ?_⟩
    rcases q5 with q5 | q5
    · left
      cases hx : bw_m (gt b) x with
      | false => rfl
      | true =>
        have := (ho x q3 b).mpr ⟨hb, (hg b hb x).mp hx⟩
        rw [q5] at this; cases this
    · exact Or.inr q5.symm
/-- what hangs on what -/
def bw_haS (ms be : Nat → Int64) (go : Int64) (b : Nat) (r : Int64) : Prop := ∀ a, bw_m r a = true ↔ a < 40 ∧ bw_m go a = true ∧ ¬ (bw_m (be a) b = true ∧ a ≠ b) ∧ ∃ t, t < 40 ∧ bw_m (ms a) t = true ∧ bw_m (be t) b = true
theorem bw_hang_eq {T en : Int64} {st sb ms gt be : Nat → Int64} {cv r : Int64} (h40 : bw_40 T) (hm : bw_ms T st ms) (hsb : bw_sb st sb) (hc : ∀ i, bw_m cv i = true ↔ bw_G (bw_I en T) (bw_E sb T) none i)
    (hg : ∀ d, d < 40 → ∀ i, bw_m (gt d) i = true ↔ bw_D (bw_I en T) (bw_E sb T) d i) (ho : bw_ovS (bw_D (bw_I en T) (bw_E sb T)) be) {b : Nat} (hb : b < 40) (hr : bw_haS ms be cv b r) : bw_rim sb gt cv b = r := by
  refine bw_meq fun x => ?_
  rw [bw_rim_m hb, hr]
  constructor
  · rintro ⟨⟨⟨f, q1, q2, q3⟩, q4⟩, q5⟩
    have d1 := (hg b hb f).mp q2
    have t1 := bw_G_T ((hc x).mp q4)
    have tf := bw_G_T d1.2.1
    refine ⟨h40 x t1, q4, ?_, f, q1, (hm x (h40 x t1) f).mpr ⟨t1, (hsb.1 x f (h40 x t1) q1).mp q3, tf⟩, (ho f q1 b).mpr ⟨hb, d1⟩⟩
    rintro ⟨z1, z2⟩
    rcases q5 with q5 | q5
    · have := (hg b hb x).mpr ((ho x (h40 x t1) b).mp z1).2
      rw [q5] at this; cases this
    · exact z2 q5.symm
  · rintro ⟨q1, q2, q3, t, q4, q5, q6⟩
    have d1 := ((ho t q4 b).mp q6).2
    have m1 := (hm x q1 t).mp q5
    refine ⟨⟨⟨t, q4, (hg b hb t).mpr d1, (hsb.1 x t q1 q4).mpr m1.2.1⟩, q2⟩, ?_⟩
    by_cases e : b = x
    · exact Or.inr e
    · left
      cases hx : bw_m (gt b) x with
      | false => rfl
      | true => exact absurd ⟨(ho x q1 b).mpr ⟨hb, (hg b hb x).mp hx⟩, fun z => e z.symm⟩ q3
/-- rounds -/
def bw_bl (sb gt : Nat → Int64) (cv : Int64) (h : Nat) : Int64 := if (sb h &&& gt h) = 0 then 0 else bw_flood sb (sb h &&& gt h) (cv &&& (bw_b h ^^^ (-1))) ||| bw_b h
def bw_bk (re : Int64) (ms ov : Nat → Int64) (h : Nat) : Int64 := bw_F (fun b => bw_m re b && bw_m (ms b) h && bw_m (ov b) h) bw_b 0 40
theorem bw_back_eq {T : Int64} {st sb ms gt ov : Nat → Int64} {cv : Int64} (h40 : bw_40 T) (hm : bw_ms T st ms) (hsb : bw_sb st sb) (hc : ∀ i, bw_m cv i = true ↔ bw_G (bw_I (bw_b 0) T) (bw_E st T) none i)
    (hg : ∀ d, d < 40 → ∀ i, bw_m (gt d) i = true ↔ bw_D (bw_I (bw_b 0) T) (bw_E st T) d i) (ho : bw_ovS (bw_D (bw_I (bw_b 0) T) (bw_E st T)) ov) {h : Nat} (hh : h < 40) : bw_bk cv ms ov h = (sb h &&& gt h) := by
  refine bw_meq fun x => ?_
  unfold bw_bk
  rw [bw_F_m, bw_0, bw_and, Bool.and_eq_true]
  constructor
  · rintro (q | ⟨b, q1, q2, q3⟩)
    · cases q
    · rw [bw_bit (by omega)] at q3
      simp only [decide_eq_true_eq] at q3
      subst q3
      simp only [Bool.and_eq_true] at q2
      have d1 := ((ho b q1 h).mp q2.2).2
      exact ⟨(hsb.1 b h q1 hh).mpr ((hm b q1 h).mp q2.1.2).2.1, (hg h hh b).mpr d1⟩
  · rintro ⟨q1, q2⟩
    have d1 := (hg h hh x).mp q2
    have hx := h40 x (bw_G_T d1.2.1)
    refine Or.inr ⟨x, hx, ?_, by rw [bw_bit (by omega)]; simp⟩
    simp only [Bool.and_eq_true]
    exact ⟨⟨(hc x).mpr d1.2.1, (hm x hx h).mpr ⟨bw_G_T d1.2.1, (hsb.1 x h hx hh).mp q1, bw_G_T d1.1⟩⟩, (ho x hx h).mpr ⟨hh, d1⟩⟩
theorem bw_round_eq {T : Int64} {st sb ms gt ov : Nat → Int64} {cv : Int64} (h40 : bw_40 T) (hm : bw_ms T st ms) (hsb : bw_sb st sb) (hc : ∀ i, bw_m cv i = true ↔ bw_G (bw_I (bw_b 0) T) (bw_E st T) none i)
    (hg : ∀ d, d < 40 → ∀ i, bw_m (gt d) i = true ↔ bw_D (bw_I (bw_b 0) T) (bw_E st T) d i) (ho : bw_ovS (bw_D (bw_I (bw_b 0) T) (bw_E st T)) ov) {h : Nat} (hh : h < 40) {r : Int64}
    (hr : bw_Lp (bw_ln T ms (bw_nt (some h))) (bw_bk cv ms ov h &&& (bw_nt (some h) ^^^ (-1))) r) : bw_bl sb gt cv h = if bw_bk cv ms ov h = 0 then 0 else bw_b h ||| (r &&& cv) := by
  have e := bw_back_eq h40 hm hsb hc hg ho hh
  have hl := bw_lead (w := some h) (fun d z => by cases z; exact hh) hr
  rw [e] at hl
  unfold bw_bl
  rw [e]
  by_cases z : (sb h &&& gt h) = 0
  · rw [if_pos z, if_pos z]
  · rw [if_neg z, if_neg z]
    have hal : ∀ j, bw_m (cv &&& (bw_b h ^^^ (-1))) j = true ↔ bw_G (bw_I (bw_b 0) T) (bw_E st T) none j ∧ h ≠ j := fun j => by
      rw [bw_dif, bw_bit (by omega), Bool.and_eq_true, hc]; simp
    have key : ∀ i, bw_m (bw_flood sb (sb h &&& gt h) (cv &&& (bw_b h ^^^ (-1)))) i = true ↔ bw_m r i = true ∧ bw_m cv i = true := by
      intro i
      rw [bw_flood_spec (fun j hj => h40 j (bw_G_T ((hal j).mp hj).1)), hl]
      constructor
      · intro q
        constructor
        · refine bw_Lc (fun j hj => ⟨hj.1, fun y => ((hal j).mp hj.2).2 (Option.some.inj y)⟩) (fun a b ha he => ?_) q
          have hb := (hal b).mp he.2
          have tb := bw_G_T hb.1
          have ta : bw_m T a = true := bw_Li (fun z => bw_m T z = true) (fun j hj => bw_G_T ((hal j).mp hj.2).1) (fun _ c _ _ he => bw_G_T ((hal c).mp he.2).1) ha
          exact ⟨h40 b tb, ⟨tb, fun y => hb.2 (Option.some.inj y)⟩, (hm b (h40 b tb) a).mpr ⟨tb, (hsb.1 b a (h40 b tb) (h40 a ta)).mp he.1, ta⟩⟩
        · exact bw_Li (fun z => bw_m cv z = true) (fun j hj => (hc j).mpr ((hal j).mp hj.2).1) (fun _ b _ _ he => (hc b).mpr ((hal b).mp he.2).1) q
      · rintro ⟨q1, q2⟩
        refine bw_Li (fun z => bw_m cv z = true → bw_L _ _ z) (fun j hj hcj => bw_L0 ⟨hj.1, (hal j).mpr ⟨(hc j).mp hcj, fun y => hj.2 (by rw [y])⟩⟩) (fun a b _ hs he hcb => ?_) q1 q2
        have hb := (hc b).mp hcb
        have m1 := (hm b he.1 a).mp he.2.2
        have hca : bw_m cv a = true := (hc a).mpr (bw_Ls hb ⟨⟨m1.2.1, m1.2.2⟩, by simp⟩)
        exact bw_Ls (hs hca) ⟨(hsb.1 b a he.1 (h40 a m1.2.2)).mpr m1.2.1, (hal b).mpr ⟨hb, fun y => he.2.1.2 (by rw [y])⟩⟩
    refine bw_meq fun i => ?_
    rw [bw_or, bw_or, bw_and, Bool.or_eq_true, Bool.or_eq_true, Bool.and_eq_true, key]
    exact Or.comm
end
section
/-! PURE 5: joins, circles, the smallest round -/
/-- the class's joins -/
def bw_jn (rim : Nat → Int64) : Nat → Int64 → Int64 → Int64 → Int64
  | 0, j, _, _ => j
  | n + 1, j, f, o => if bw_lo o < 40 then bw_jn rim n (j ||| rim (bw_lo o)) (f ||| rim (bw_lo o)) ((o &&& (bw_b (bw_lo o) ^^^ (-1))) ||| (rim (bw_lo o) &&& (f ^^^ (-1)))) else j
def bw_joins (rim : Nat → Int64) (cv bs : Int64) : Int64 := bw_jn rim 40 0 (bs &&& cv) (bs &&& cv)
theorem bw_jn_end {rim : Nat → Int64} {j f : Int64} {I : Nat → Prop} (hL : ∀ i, bw_m f i = true → bw_L I (fun a b => bw_m (rim a) b = true) i) (hI : ∀ i, I i → bw_m f i = true)
    (hj : ∀ i, bw_m j i = true → ∃ a, bw_m f a = true ∧ bw_m (rim a) i = true) (hjf : ∀ i, bw_m j i = true → bw_m f i = true)
    (hc : ∀ a b, bw_m f a = true → bw_m (rim a) b = true → bw_m j b = true) (i : Nat) : bw_m j i = true ↔ ∃ a, bw_L I (fun a b => bw_m (rim a) b = true) a ∧ bw_m (rim a) i = true := by
  constructor
  · intro h
    obtain ⟨a, h1, h2⟩ := hj i h
    exact ⟨a, hL a h1, h2⟩
  · rintro ⟨a, h1, h2⟩
    exact hc a i (bw_Li (fun z => bw_m f z = true) hI (fun a b _ hs he => hjf b (hc a b hs he)) h1) h2
theorem bw_jn_spec {rim : Nat → Int64} {I : Nat → Prop} (h40 : ∀ a, a < 40 → ∀ i, bw_m (rim a) i = true → i < 40) : ∀ (n : Nat) (j f o : Int64),
    (∀ i, bw_m o i = true → bw_m f i = true) → (∀ i, bw_m f i = true → i < 40) → (∀ i, bw_m f i = true → bw_L I (fun a b => bw_m (rim a) b = true) i) → (∀ i, I i → bw_m f i = true) →
    (∀ i, bw_m j i = true → ∃ a, bw_m f a = true ∧ bw_m (rim a) i = true) → (∀ i, bw_m j i = true → bw_m f i = true) →
    (∀ a b, bw_m f a = true → bw_m o a = false → bw_m (rim a) b = true → bw_m j b = true) → 40 ≤ n + bw_c (f &&& (o ^^^ (-1))) 40 →
    ∀ i, bw_m (bw_jn rim n j f o) i = true ↔ ∃ a, bw_L I (fun a b => bw_m (rim a) b = true) a ∧ bw_m (rim a) i = true := by
  intro n
  induction n with
  | zero =>
    intro j f o ho hal hL hI hj hjf hc hn i
    refine bw_jn_end hL hI hj hjf (fun a b ha he => hc a b ha ?_ he) i
    have h1 := bw_c_full (x := f &&& (o ^^^ (-1))) (n := 40) (by omega) a (hal a ha)
    rw [bw_dif] at h1
    simp only [Bool.and_eq_true, Bool.not_eq_true'] at h1
    exact h1.2
  | succ n ih =>
    intro j f o ho hal hL hI hj hjf hc hn i
    unfold bw_jn
    by_cases hb : bw_lo o < 40
    · rw [if_pos hb]
      have hob := (bw_lo_lt (x := o) (by omega)).1
      generalize bw_lo o = b at hb hob ⊢
      have hfb := ho b hob
      have hO : ∀ k, bw_m ((o &&& (bw_b b ^^^ (-1))) ||| (rim b &&& (f ^^^ (-1)))) k = ((bw_m o k && !decide (b = k)) || (bw_m (rim b) k && !bw_m f k)) := fun k => by rw [bw_or, bw_dif, bw_dif, bw_bit (by omega)]
      have hf : ∀ k, bw_m (f ||| rim b) k = (bw_m f k || bw_m (rim b) k) := fun k => bw_or f _ k
      have hJ : ∀ k, bw_m (j ||| rim b) k = (bw_m j k || bw_m (rim b) k) := fun k => bw_or j _ k
      refine ih (j ||| rim b) (f ||| rim b) ((o &&& (bw_b b ^^^ (-1))) ||| (rim b &&& (f ^^^ (-1)))) ?_ ?_ ?_ ?_ ?_ ?_ ?_ ?_ i
      · intro k hk
        rw [hO] at hk; rw [hf]
        simp only [Bool.or_eq_true, Bool.and_eq_true] at hk ⊢
        rcases hk with hk | hk
        · exact Or.inl (ho k hk.1)
        · exact Or.inr hk.1
      · intro k hk
        rw [hf, Bool.or_eq_true] at hk
        rcases hk with hk | hk
        · exact hal k hk
        · exact h40 b hb k hk
      · intro k hk
        rw [hf, Bool.or_eq_true] at hk
        rcases hk with hk | hk
        · exact hL k hk
        · exact bw_Ls (hL b hfb) hk
      · intro k hk
        rw [hf, hI k hk]; rfl
      · intro k hk
        rw [hJ, Bool.or_eq_true] at hk
        rcases hk with hk | hk
        · obtain ⟨a, h1, h2⟩ := hj k hk
          exact ⟨a, by rw [hf, h1]; rfl, h2⟩
        · exact ⟨b, by rw [hf, hfb]; rfl, hk⟩
      · intro k hk
        rw [hJ, Bool.or_eq_true] at hk
        rw [hf, Bool.or_eq_true]
        rcases hk with hk | hk
        · exact Or.inl (hjf k hk)
        · exact Or.inr hk
      · intro a c ha hoa he
        rw [hf] at ha
        rw [hO] at hoa
        simp only [Bool.or_eq_true, Bool.or_eq_false_iff] at ha hoa
        rw [hJ, Bool.or_eq_true]
        by_cases e : b = a
        · subst e; exact Or.inr he
        · have h1 : bw_m o a = false := by
            have := hoa.1
            simpa [e] using this
          have ha : bw_m f a = true := by
            rcases ha with ha | ha
            · exact ha
            · have := hoa.2
              rw [ha] at this
              simpa using this
          exact Or.inl (hc a c ha h1 he)
      · have h1 : bw_c (f &&& (o ^^^ (-1))) 40 < bw_c ((f ||| rim b) &&& (((o &&& (bw_b b ^^^ (-1))) ||| (rim b &&& (f ^^^ (-1)))) ^^^ (-1))) 40 := by
          refine bw_c_lt (fun k _ hk => ?_) ⟨b, hb, ?_, ?_⟩
          · rw [bw_dif] at hk ⊢
            rw [hf, hO]
            simp only [Bool.and_eq_true, Bool.not_eq_true'] at hk
            rw [hk.1, hk.2]; simp
          · rw [bw_dif, hob]; simp
          · rw [bw_dif, hf, hO, hfb, hob]; simp
        omega
    · rw [if_neg hb]
      refine bw_jn_end hL hI hj hjf (fun a b ha he => hc a b ha ?_ he) i
      exact bw_lo_ge hb a (hal a ha)
theorem bw_joins_m {rim : Nat → Int64} {cv bs : Int64} (h40 : ∀ a, a < 40 → ∀ i, bw_m (rim a) i = true → i < 40) (hcv : ∀ i, bw_m cv i = true → i < 40) (i : Nat) :
    bw_m (bw_joins rim cv bs) i = true ↔ ∃ a, bw_L (fun i => bw_m bs i = true ∧ bw_m cv i = true) (fun a b => bw_m (rim a) b = true) a ∧ bw_m (rim a) i = true := by
  have hx : ∀ j, bw_m (bs &&& cv) j = (bw_m bs j && bw_m cv j) := bw_and bs cv
  refine bw_jn_spec h40 40 0 _ _ (fun j h => h) (fun j h => ?_) (fun j h => bw_L0 ?_) (fun j h => ?_) (fun j h => ?_) (fun j h => ?_) (fun a b h1 h2 => ?_) (by omega) i
  · rw [hx, Bool.and_eq_true] at h; exact hcv j h.2
  · rw [hx, Bool.and_eq_true] at h; exact h
  · rw [hx, Bool.and_eq_true]; exact h
  · rw [bw_0] at h; cases h
  · rw [bw_0] at h; cases h
  · rw [h1] at h2; cases h2
/-- the reference's joins -/
def bw_jx (ed : Nat → Int64) (re bs s : Int64) : Int64 := bw_F (bw_m ((bs ||| s) &&& re)) ed s 40
theorem bw_joins_eq {rim ed : Nat → Int64} {cv bs r : Int64} (he : ∀ b, b < 40 → rim b = ed b) (h40 : ∀ a, a < 40 → ∀ i, bw_m (rim a) i = true → bw_m cv i = true) (hcv : ∀ i, bw_m cv i = true → i < 40)
    (hr : bw_Lp (bw_jx ed cv bs) 0 r) : bw_joins rim cv bs = r := by
  have hl := bw_fix2 (I := fun i => ∃ b, b < 40 ∧ (bw_m bs b = true ∧ bw_m cv b = true) ∧ bw_m (ed b) i = true) (E := fun a i => a < 40 ∧ bw_m cv a = true ∧ bw_m (ed a) i = true) (fun _ => True) hr.1 hr.2 trivial (fun _ _ => trivial) (fun i h => by rw [bw_0] at h; cases h) (fun s i _ => by
    unfold bw_jx
    rw [bw_F_m]
    constructor
    · rintro (q | ⟨b, q1, q2, q3⟩)
      · exact Or.inl q
      · rw [bw_and, bw_or, Bool.and_eq_true, Bool.or_eq_true] at q2
        rcases q2 with ⟨q2 | q2, q4⟩
        · exact Or.inr (Or.inl ⟨b, q1, ⟨q2, q4⟩, q3⟩)
        · exact Or.inr (Or.inr ⟨b, q2, q1, q4, q3⟩)
    · rintro (q | ⟨b, q1, q2, q3⟩ | ⟨b, q1, q2, q3, q4⟩)
      · exact Or.inl q
      · refine Or.inr ⟨b, q1, ?_, q3⟩
        rw [bw_and, bw_or, q2.1, q2.2]; rfl
      · refine Or.inr ⟨b, q2, ?_, q4⟩
        rw [bw_and, bw_or, q1, q3]; simp)
  refine bw_meq fun i => ?_
  rw [bw_joins_m (fun a ha i hi => hcv i (h40 a ha i hi)) hcv, hl]
  have hin : ∀ {a : Nat}, bw_L (fun i => bw_m bs i = true ∧ bw_m cv i = true) (fun a b => bw_m (rim a) b = true) a → bw_m cv a = true := fun {a} h =>
    bw_Li (fun z => bw_m cv z = true) (fun _ hj => hj.2) (fun a b _ hs he => h40 a (hcv a hs) b he) h
  constructor
  · rintro ⟨a, h1, h2⟩
    have key : bw_m cv a = true ∧ ∀ i, bw_m (rim a) i = true → bw_L (fun i => ∃ b, b < 40 ∧ (bw_m bs b = true ∧ bw_m cv b = true) ∧ bw_m (ed b) i = true) (fun a i => a < 40 ∧ bw_m cv a = true ∧ bw_m (ed a) i = true) i := by
      refine bw_Li (fun z => bw_m cv z = true ∧ ∀ i, bw_m (rim z) i = true → bw_L (fun i => ∃ b, b < 40 ∧ (bw_m bs b = true ∧ bw_m cv b = true) ∧ bw_m (ed b) i = true) (fun a i => a < 40 ∧ bw_m cv a = true ∧ bw_m (ed a) i = true) i) (fun j hj => ⟨hj.2, fun i hi => ?_⟩) (fun x y _ hs hxy => ?_) h1
      · exact bw_L0 ⟨j, hcv j hj.2, hj, by rw [← he j (hcv j hj.2)]; exact hi⟩
      · have cy := h40 x (hcv x hs.1) y hxy
        exact ⟨cy, fun i hi => bw_Ls (hs.2 y hxy) ⟨hcv y cy, cy, by rw [← he y (hcv y cy)]; exact hi⟩⟩
    exact key.2 i h2
  · intro h
    refine bw_Li (fun z => ∃ a, bw_L (fun i => bw_m bs i = true ∧ bw_m cv i = true) (fun a b => bw_m (rim a) b = true) a ∧ bw_m (rim a) z = true) (fun j hj => ?_) (fun x y _ hs hxy => ?_) h
    · obtain ⟨b, h1, h2, h3⟩ := hj
      exact ⟨b, bw_L0 h2, by rw [he b h1]; exact h3⟩
    · obtain ⟨a, h1, h2⟩ := hs
      exact ⟨x, bw_Ls h1 h2, by rw [he x hxy.1]; exact hxy.2.2⟩
/-! circles -/
/-- a set in which each one has one ahead of it holds one in which each one has one behind it -/
theorem bw_circ (F : Nat → Nat → Prop) : ∀ (n : Nat) (C : Int64), bw_c C 64 ≤ n → ¬ C = 0 → (∀ c, bw_m C c = true → ∃ a, bw_m C a = true ∧ F a c) →
    ∃ C' : Int64, ¬ C' = 0 ∧ (∀ i, bw_m C' i = true → bw_m C i = true) ∧ ∀ c, bw_m C' c = true → ∃ a, bw_m C' a = true ∧ F c a := by
  intro n
  induction n with
  | zero =>
    intro C hn h0 _
    obtain ⟨i, hi, hm⟩ := bw_nz h0
    have : bw_c 0 64 < bw_c C 64 := bw_c_lt (fun j _ h => by rw [bw_0] at h; cases h) ⟨i, hi, bw_0 i, hm⟩
    omega
  | succ n ih =>
    intro C hn h0 hp
    by_cases h : ∀ c, bw_m C c = true → ∃ a, bw_m C a = true ∧ F c a
    · exact ⟨C, h0, fun _ h => h, h⟩
    · obtain ⟨c, hc⟩ := Classical.not_forall.mp h
      obtain ⟨hc, hno⟩ := Classical.not_imp.mp hc
      have c64 := bw_lt hc
      have hm : ∀ i, bw_m (C &&& (bw_b c ^^^ (-1))) i = true ↔ bw_m C i = true ∧ c ≠ i := fun i => by
        rw [bw_dif, bw_bit c64, Bool.and_eq_true]; simp
      obtain ⟨C', h1, h2, h3⟩ := ih (C &&& (bw_b c ^^^ (-1))) (by
        have : bw_c (C &&& (bw_b c ^^^ (-1))) 64 < bw_c C 64 := bw_c_lt (fun j _ h => ((hm j).mp h).1) ⟨c, c64, by
          cases hx : bw_m (C &&& (bw_b c ^^^ (-1))) c with
          | false => rfl
          | true => exact absurd rfl ((hm c).mp hx).2, hc⟩
        omega) (by
        obtain ⟨p, h1, h2⟩ := hp c hc
        intro z
        have h3 : c ≠ p := fun e => hno ⟨c, hc, by rw [← e] at h2; exact h2⟩
        have := (hm p).mpr ⟨h1, h3⟩
        rw [z, bw_0] at this; cases this) (fun i hi => by
        obtain ⟨hi, hne⟩ := (hm i).mp hi
        obtain ⟨a, h1, h2⟩ := hp i hi
        refine ⟨a, (hm a).mpr ⟨h1, fun e => hno ⟨i, hi, by rw [e]; exact h2⟩⟩, h2⟩)
      exact ⟨C', h1, fun i hi => ((hm i).mp (h2 i hi)).1, h3⟩
/-- one sweep of isPlain, up to block n -/
def bw_sw (src : Nat → Int64) (left : Int64) : Nat → Int64
  | 0 => left
  | n + 1 => if (src n &&& bw_sw src left n) = 0 then bw_sw src left n &&& (bw_b n ^^^ (-1)) else bw_sw src left n
/-- k sweeps, as long as something is left -/
def bw_swk (src : Nat → Int64) : Nat → Int64 → Int64
  | 0, left => left
  | k + 1, left => if left = 0 then left else bw_swk src k (bw_sw src left 40)
theorem bw_sw_sub {src : Nat → Int64} {left : Int64} : ∀ n, n ≤ 40 → ∀ i, bw_m (bw_sw src left n) i = true → bw_m left i = true := by
  intro n
  induction n with
  | zero => intro _ i h; exact h
  | succ n ih =>
    intro hn i h
    unfold bw_sw at h
    split at h
    · rw [bw_dif, Bool.and_eq_true] at h; exact ih (by omega) i h.1
    · exact ih (by omega) i h
theorem bw_sw_keep {src : Nat → Int64} {left C : Int64} (hC : ∀ c, bw_m C c = true → ∃ a, bw_m C a = true ∧ bw_m (src c) a = true) (h0 : ∀ i, bw_m C i = true → bw_m left i = true) : ∀ n, n ≤ 40 → ∀ i, bw_m C i = true → bw_m (bw_sw src left n) i = true := by
  intro n
  induction n with
  | zero => intro _; exact h0
  | succ n ih =>
    intro hn i h
    have h9 := ih (by omega)
    unfold bw_sw
    split
    · rename_i z
      rw [bw_dif, Bool.and_eq_true, bw_bit (by omega)]
      refine ⟨h9 i h, ?_⟩
      by_cases e : n = i
      · subst e
        obtain ⟨a, h1, h2⟩ := hC n h
        have : bw_m (src n &&& bw_sw src left n) a = true := by rw [bw_and, h2, h9 a h1]; rfl
        rw [z, bw_0] at this; cases this
      · simp [e]
    · exact h9 i h
/-- a sweep that takes nothing away leaves only such as have one ahead -/
theorem bw_sw_fix {src : Nat → Int64} {left : Int64} (hl : ∀ i, bw_m left i = true → i < 40) (h : ∀ i, bw_m left i = true → bw_m (bw_sw src left 40) i = true) : ∀ c, bw_m left c = true → ∃ a, bw_m left a = true ∧ bw_m (src c) a = true := by
  have key : ∀ n, n ≤ 40 → ∀ i, bw_m (bw_sw src left 40) i = true → bw_m (bw_sw src left n) i = true := by
    have step : ∀ n i, n < 40 → bw_m (bw_sw src left (n + 1)) i = true → bw_m (bw_sw src left n) i = true := by
      intro n i hn h
      unfold bw_sw at h
      split at h
      · rw [bw_dif, Bool.and_eq_true] at h; exact h.1
      · exact h
    have go : ∀ k n, n + k = 40 → ∀ i, bw_m (bw_sw src left 40) i = true → bw_m (bw_sw src left n) i = true := by
      intro k
      induction k with
      | zero => intro n e i h; have : n = 40 := by omega
                subst this; exact h
      | succ k ih => intro n e i h; exact step n i (by omega) (ih (n + 1) (by omega) i h)
    intro n hn i h
    exact go (40 - n) n (by omega) i h
  intro c hc
  have c40 := hl c hc
  have hk := key (c + 1) (by omega) c (h c hc)
  unfold bw_sw at hk
  split at hk
  · rw [bw_dif, bw_bit (by omega), Bool.and_eq_true] at hk
    simp at hk
  · rename_i z
    obtain ⟨a, -, ha⟩ := bw_nz z
    rw [bw_and, Bool.and_eq_true] at ha
    exact ⟨a, bw_sw_sub c (by omega) a ha.2, ha.1⟩
theorem bw_swk_keep {src : Nat → Int64} {C : Int64} (hC : ∀ c, bw_m C c = true → ∃ a, bw_m C a = true ∧ bw_m (src c) a = true) : ∀ (k : Nat) (left : Int64), (∀ i, bw_m C i = true → bw_m left i = true) → ∀ i, bw_m C i = true → bw_m (bw_swk src k left) i = true := by
  intro k
  induction k with
  | zero => intro left h; exact h
  | succ k ih =>
    intro left h
    unfold bw_swk
    split
    · exact h
    · exact ih _ (bw_sw_keep hC h 40 (Nat.le_refl 40))
theorem bw_swk_none {src : Nat → Int64} {cv : Int64} (hcv : ∀ i, bw_m cv i = true → i < 40) (hno : ∀ C : Int64, (∀ i, bw_m C i = true → bw_m cv i = true) → (∀ c, bw_m C c = true → ∃ a, bw_m C a = true ∧ bw_m (src c) a = true) → C = 0) : ∀ (k : Nat) (left : Int64), (∀ i, bw_m left i = true → bw_m cv i = true) → bw_c left 64 ≤ k → bw_swk src k left = 0 := by
  intro k
  induction k with
  | zero =>
    intro left _ h
    unfold bw_swk
    by_cases z : left = 0
    · exact z
    · obtain ⟨i, hi, hm⟩ := bw_nz z
      have : bw_c 0 64 < bw_c left 64 := bw_c_lt (fun j _ h => by rw [bw_0] at h; cases h) ⟨i, hi, bw_0 i, hm⟩
      omega
  | succ k ih =>
    intro left hl h
    unfold bw_swk
    by_cases z : left = 0
    · rw [if_pos z]; exact z
    · rw [if_neg z]
      have hs := bw_sw_sub (src := src) (left := left) 40 (Nat.le_refl 40)
      refine ih _ (fun i hi => hl i (hs i hi)) ?_
      by_cases e : ∀ i, bw_m left i = true → bw_m (bw_sw src left 40) i = true
      · exact absurd (hno left hl (bw_sw_fix (fun i hi => hcv i (hl i hi)) e)) z
      · obtain ⟨i, hi⟩ := Classical.not_forall.mp e
        obtain ⟨h1, h2⟩ := Classical.not_imp.mp hi
        have : bw_c (bw_sw src left 40) 64 < bw_c left 64 := bw_c_lt (fun j _ h => hs j h) ⟨i, bw_lt h1, by
          cases hx : bw_m (bw_sw src left 40) i with
          | false => rfl
          | true => exact absurd hx h2, h1⟩
        omega
/-- the class's isPlain: no circle. The reference's: r is a set that a sweep leaves as it is, and none that must stay has gone -/
theorem bw_plain_eq {src dst : Nat → Int64} {cv r : Int64} (hcv : ∀ i, bw_m cv i = true → i < 40) (hsd : ∀ a b, bw_m cv a = true → bw_m cv b = true → (bw_m (src b) a = true ↔ bw_m (dst a) b = true))
    (hr0 : ∀ i, bw_m r i = true → bw_m cv i = true) (hr1 : ∀ c, bw_m r c = true → ∃ a, bw_m r a = true ∧ bw_m (dst c) a = true)
    (hr2 : ∀ C : Int64, (∀ i, bw_m C i = true → bw_m cv i = true) → (∀ c, bw_m C c = true → ∃ a, bw_m C a = true ∧ bw_m (dst c) a = true) → ∀ i, bw_m C i = true → bw_m r i = true) :
    bw_swk src 40 cv = 0 ↔ r = 0 := by
  constructor
  · intro h
    by_cases z : r = 0
    · exact z
    · exfalso
      obtain ⟨C, c0, c1, c2⟩ := bw_circ (fun a b => bw_m (dst b) a = true) 64 r (bw_c_le _ _) z hr1
      have hC : ∀ c, bw_m C c = true → ∃ a, bw_m C a = true ∧ bw_m (src c) a = true := fun c hc => by
        obtain ⟨a, h1, h2⟩ := c2 c hc
        exact ⟨a, h1, (hsd a c (hr0 a (c1 a h1)) (hr0 c (c1 c hc))).mpr h2⟩
      obtain ⟨i, -, hi⟩ := bw_nz c0
      have := bw_swk_keep hC 40 cv (fun i hi => hr0 i (c1 i hi)) i hi
      rw [h, bw_0] at this; cases this
  · intro h
    have hc40 : bw_c cv 64 ≤ 40 := by
      rw [bw_c_cut (k := 40) (fun i hi => by
        cases hx : bw_m cv i with
        | false => rfl
        | true => exact absurd (hcv i hx) (by omega)) 64 (by omega)]
      exact bw_c_le _ _
    refine bw_swk_none hcv (fun C h1 h2 => ?_) 40 cv (fun _ h => h) hc40
    by_cases z : C = 0
    · exact z
    · exfalso
      obtain ⟨C', c0, c1, c2⟩ := bw_circ (fun a b => bw_m (src b) a = true) 64 C (bw_c_le _ _) z h2
      obtain ⟨i, -, hi⟩ := bw_nz c0
      have := hr2 C' (fun i hi => h1 i (c1 i hi)) (fun c hc => by
        obtain ⟨a, q1, q2⟩ := c2 c hc
        exact ⟨a, q1, (hsd c a (h1 c (c1 c hc)) (h1 a (c1 a q1))).mp q2⟩) i hi
      rw [h, bw_0] at this; cases this
/-- the smallest round round b, by the counts of its blocks -/
def bw_sm (bl : Nat → Int64) (b : Nat) : Nat → Option Nat
  | 0 => none
  | n + 1 => match bw_sm bl b n with
    | none => if bw_m (bl n) b = true then some n else none
    | some k => if (bw_m (bl n) b && decide (bw_c (bl n) 40 < bw_c (bl k) 40)) = true then some n else some k
theorem bw_sm_lt {bl : Nat → Int64} {b : Nat} : ∀ {n k : Nat}, bw_sm bl b n = some k → k < n := by
  intro n
  induction n with
  | zero => intro k h; cases h
  | succ n ih =>
    intro k h
    unfold bw_sm at h
    split at h
    · split at h
      · cases h; omega
      · cases h
    · rename_i k' e
      split at h
      · cases h; omega
      · cases h; have := ih e; omega
theorem bw_sm_ext {bl bl' : Nat → Int64} {b : Nat} : ∀ {n : Nat}, (∀ i, i < n → bl i = bl' i) → bw_sm bl b n = bw_sm bl' b n := by
  intro n
  induction n with
  | zero => intro _; rfl
  | succ n ih =>
    intro h
    unfold bw_sm
    rw [ih (fun i hi => h i (by omega)), h n (by omega)]
    split
    · rfl
    · rename_i k e
      rw [h k (by have := bw_sm_lt e; omega)]
def bw_h (o : Option Nat) : Int32 := match o with
  | none => -1
  | some k => nI k
end
section
/-! PURE 6: what ties the class's state to the reference's -/
def bw_Rel (T : Int64) (tc : Nat → Int32) (st sb : Nat → Int64) (mn tg : Nat → Int32) : Prop :=
  bw_40 T ∧ bw_sb st sb ∧ ∃ (n : Nat → Nat) (t : Nat → Nat → Nat), ∀ b, b < 40 → n b ≤ 4 ∧ tc b = nI (n b) ∧ (bw_m T b = true → mn b = nI (n b)) ∧ (bw_m T b = false → n b = 0) ∧ (∀ j, j < n b → tg (4 * b + j) = nI (t b j) ∧ t b j < 40) ∧ ∀ i, bw_m (st b) i = true ↔ ∃ j, j < n b ∧ t b j = i
theorem bw_Rel_0 {mn tg : Nat → Int32} : bw_Rel 0 (fun _ => 0) (fun _ => 0) (fun _ => 0) mn tg := by
  have z : ∀ {i : Nat} {P : Prop}, bw_m 0 i = true → P := fun {i} {P} h => by rw [bw_0] at h; cases h
  refine ⟨fun i h => z h, ⟨fun a b _ _ => by rw [bw_0, bw_0], fun b a _ h => z h, fun b a _ h => z h⟩, fun _ => 0, fun _ _ => 0, fun b _ => ⟨Nat.zero_le 4, rfl, fun h => z h, fun _ => rfl, fun j h => absurd h (Nat.not_lt_zero j), fun i => ?_⟩⟩
  rw [bw_0]
  constructor
  · intro h; cases h
  · rintro ⟨j, h, -⟩; exact absurd h (Nat.not_lt_zero j)
theorem bw_Rel_block {T : Int64} {tc mn tg : Nat → Int32} {st sb : Nat → Int64} {b : Nat} (h : bw_Rel T tc st sb mn tg) (hb : b < 40) (hT : bw_m T b = false) : bw_Rel (T ||| bw_b b) tc st sb (upd mn b 0) tg := by
  obtain ⟨h1, h2, n, t, h3⟩ := h
  have hm : ∀ i, bw_m (T ||| bw_b b) i = (bw_m T i || decide (b = i)) := fun i => by rw [bw_or, bw_bit (by omega)]
  refine ⟨fun i hi => ?_, h2, n, t, fun x hx => ?_⟩
  · rw [hm, Bool.or_eq_true, decide_eq_true_eq] at hi
    rcases hi with hi | hi
    · exact h1 i hi
    · omega
  · obtain ⟨q1, q2, q3, q4, q5, q6⟩ := h3 x hx
    refine ⟨q1, q2, fun hq => ?_, fun hq => ?_, q5, q6⟩
    · by_cases e : x = b
      · subst e
        rw [pk_us, q4 hT]; rfl
      · rw [pk_un e]
        rw [hm, Bool.or_eq_true, decide_eq_true_eq] at hq
        rcases hq with hq | hq
        · exact q3 hq
        · exact absurd hq.symm e
    · rw [hm, Bool.or_eq_false_iff] at hq
      exact q4 hq.1
theorem bw_Rel_target {T : Int64} {tc mn tg : Nat → Int32} {st sb : Nat → Int64} {b to k : Nat} (h : bw_Rel T tc st sb mn tg) (hb : b < 40) (ht : to < 40) (hT : bw_m T b = true) (hk : tc b = nI k) (hk4 : k < 4) :
    bw_Rel T (upd tc b (nI (k + 1))) (vp_updL st b (st b ||| bw_b to)) (vp_updL sb to (sb to ||| bw_b b)) (upd mn b (nI (k + 1))) (upd tg (4 * b + k) (nI to)) := by
  obtain ⟨h1, h2, n, t, h3⟩ := h
  obtain ⟨b1, b2, b3, b4, b5, b6⟩ := h3 b hb
  have hn : n b = k := (nI_eq (by omega) (by omega)).mp (b2.symm.trans hk)
  have hst : ∀ x i, bw_m (vp_updL st b (st b ||| bw_b to) x) i = true ↔ bw_m (st x) i = true ∨ (x = b ∧ to = i) := by
    intro x i
    by_cases e : x = b
    · subst e
      rw [pk_uLs, bw_or, bw_bit (by omega), Bool.or_eq_true, decide_eq_true_eq]; simp
    · rw [pk_uLn e]; simp [e]
  have hsb : ∀ x i, bw_m (vp_updL sb to (sb to ||| bw_b b) x) i = true ↔ bw_m (sb x) i = true ∨ (x = to ∧ b = i) := by
    intro x i
    by_cases e : x = to
    · subst e
      rw [pk_uLs, bw_or, bw_bit (by omega), Bool.or_eq_true, decide_eq_true_eq]; simp
    · rw [pk_uLn e]; simp [e]
  refine ⟨h1, ⟨fun x y hx hy => ?_, fun y x hy hq => ?_, fun x y hx hq => ?_⟩, fun x => if x = b then k + 1 else n x, fun x j => if x = b ∧ j = k then to else t x j, fun x hx => ?_⟩
  · rw [hst, hsb, h2.1 x y hx hy]
    constructor
    · rintro (q | ⟨q1, q2⟩)
      · exact Or.inl q
      · exact Or.inr ⟨q2.symm, q1.symm⟩
    · rintro (q | ⟨q1, q2⟩)
      · exact Or.inl q
      · exact Or.inr ⟨q2.symm, q1.symm⟩
  · rcases (hsb y x).mp hq with q | q
    · exact h2.2.1 y x hy q
    · omega
  · rcases (hst x y).mp hq with q | q
    · exact h2.2.2 x y hx q
    · omega
  · obtain ⟨q1, q2, q3, q4, q5, q6⟩ := h3 x hx
    dsimp only
    by_cases e : x = b
    · subst e
      rw [if_pos rfl]
      refine ⟨by omega, pk_us, fun _ => pk_us, fun hq => (by rw [hT] at hq; cases hq), fun j hj => ?_, fun i => ?_⟩
      · by_cases ej : j = k
        · subst ej
          simp only [true_and, if_true]
          exact ⟨pk_us, ht⟩
        · have := q5 j (by omega)
          rw [if_neg (fun z => ej z.2), pk_un (by omega)]
          exact this
      · rw [hst, q6]
        constructor
        · rintro (⟨j, j1, j2⟩ | ⟨-, j2⟩)
          · exact ⟨j, by omega, by rw [if_neg (fun z => by omega)]; exact j2⟩
          · exact ⟨k, by omega, by rw [if_pos ⟨rfl, rfl⟩]; exact j2⟩
        · rintro ⟨j, j1, j2⟩
          by_cases ej : j = k
          · subst ej
            rw [if_pos ⟨rfl, rfl⟩] at j2
            exact Or.inr ⟨rfl, j2⟩
          · rw [if_neg (fun z => ej z.2)] at j2
            exact Or.inl ⟨j, by omega, j2⟩
    · rw [if_neg e, pk_un e, pk_un e]
      refine ⟨q1, q2, q3, q4, fun j hj => ?_, fun i => ?_⟩
      · rw [if_neg (fun z => e z.1), pk_un (by omega)]
        exact q5 j hj
      · rw [hst, q6]
        constructor
        · rintro (⟨j, j1, j2⟩ | ⟨j1, -⟩)
          · exact ⟨j, j1, by rw [if_neg (fun z => e z.1)]; exact j2⟩
          · exact absurd j1 e
        · rintro ⟨j, j1, j2⟩
          rw [if_neg (fun z => e z.1)] at j2
          exact Or.inl ⟨j, j1, j2⟩
/-- a row with b taken out of all -/
def bw_out (sb : Nat → Int64) (b n : Nat) : Nat → Int64 := fun j => if j < n then sb j &&& (bw_b b ^^^ (-1)) else sb j
theorem bw_Rel_drop {T : Int64} {tc mn tg : Nat → Int32} {st sb : Nat → Int64} {b : Nat} (h : bw_Rel T tc st sb mn tg) (hb : b < 40) :
    bw_Rel (T &&& (bw_b b ^^^ (-1))) (upd tc b 0) (vp_updL st b 0) (bw_out sb b 40) mn tg := by
  obtain ⟨h1, h2, n, t, h3⟩ := h
  have hm : ∀ i, bw_m (T &&& (bw_b b ^^^ (-1))) i = (bw_m T i && !decide (b = i)) := fun i => by rw [bw_dif, bw_bit (by omega)]
  have hst : ∀ x i, bw_m (vp_updL st b 0 x) i = true ↔ bw_m (st x) i = true ∧ x ≠ b := by
    intro x i
    by_cases e : x = b
    · subst e
      rw [pk_uLs, bw_0]; simp
    · rw [pk_uLn e]; simp [e]
  have hsb : ∀ x i, x < 40 → (bw_m (bw_out sb b 40 x) i = true ↔ bw_m (sb x) i = true ∧ b ≠ i) := by
    intro x i hx
    unfold bw_out
    rw [if_pos hx, bw_dif, bw_bit (by omega), Bool.and_eq_true]; simp
  refine ⟨fun i hi => ?_, ⟨fun x y hx hy => ?_, fun y x hy hq => h2.2.1 y x hy ((hsb y x hy).mp hq).1, fun x y hx hq => h2.2.2 x y hx ((hst x y).mp hq).1⟩, fun x => if x = b then 0 else n x, t, fun x hx => ?_⟩
  · rw [hm, Bool.and_eq_true] at hi
    exact h1 i hi.1
  · rw [hst, hsb y x hy, h2.1 x y hx hy]
    exact ⟨fun q => ⟨q.1, fun z => q.2 z.symm⟩, fun q => ⟨q.1, fun z => q.2 z.symm⟩⟩
  · obtain ⟨q1, q2, q3, q4, q5, q6⟩ := h3 x hx
    dsimp only
    by_cases e : x = b
    · subst e
      rw [if_pos rfl]
      refine ⟨by omega, pk_us, fun hq => ?_, fun _ => rfl, fun j hj => by omega, fun i => ?_⟩
      · rw [hm] at hq; simp at hq
      · rw [hst]
        constructor
        · rintro ⟨-, z⟩; exact absurd rfl z
        · rintro ⟨j, j1, -⟩; omega
    · rw [if_neg e, pk_un e]
      refine ⟨q1, q2, fun hq => ?_, fun hq => ?_, q5, fun i => ?_⟩
      · rw [hm, Bool.and_eq_true] at hq; exact q3 hq.1
      · rw [hm] at hq
        refine q4 ?_
        have : ¬ b = x := fun z => e z.symm
        simpa [this] using hq
      · rw [hst, ← q6]
        exact ⟨fun z => z.1, fun z => ⟨z, e⟩⟩
end
section
/-! PURE 3: Long.bitCount counts bits -/
def bp_v : List Nat → Nat
  | [] => 0
  | b :: bs => b + 256 * bp_v bs
def bp_k (c : Nat) : Nat → Nat
  | 0 => 0
  | n + 1 => c + 256 * bp_k c n
theorem bp_and {a b m M h : Nat} (ha : a < 256) (hm : m < 256) (e : a &&& m = b) : (a + 256 * h) &&& (m + 256 * M) = b + 256 * (h &&& M) := by
  have h1 : ((a + 256 * h) &&& (m + 256 * M)) % 2 ^ 8 = b := by
    rw [Nat.and_mod_two_pow]
    have e1 : (a + 256 * h) % 2 ^ 8 = a := by omega
    have e2 : (m + 256 * M) % 2 ^ 8 = m := by omega
    rw [e1, e2, e]
  have h2 : ((a + 256 * h) &&& (m + 256 * M)) / 2 ^ 8 = h &&& M := by
    rw [Nat.and_div_two_pow]
    have e1 : (a + 256 * h) / 2 ^ 8 = h := by omega
    have e2 : (m + 256 * M) / 2 ^ 8 = M := by omega
    rw [e1, e2]
  omega
theorem bp_b1 : ∀ t, t < 2 → ∀ b, b < 256 → (b / 2 + 128 * t) &&& 85 = (b / 2) &&& 85 := by decide +kernel
theorem bp_b2 : ∀ t, t < 4 → ∀ b, b < 256 → (b / 4 + 64 * t) &&& 51 = (b / 4) &&& 51 := by decide +kernel
def bp_f1 (b : Nat) : Nat := b - ((b / 2) &&& 85)
def bp_f2 (b : Nat) : Nat := (b &&& 51) + ((b / 4) &&& 51)
def bp_f3 (b : Nat) : Nat := (b + b / 16) &&& 15
theorem bp_s1 : ∀ l : List Nat, (∀ b ∈ l, b < 256) → ((bp_v l / 2) &&& bp_k 85 l.length) = bp_v (l.map fun b => (b / 2) &&& 85) := by
  intro l
  induction l with
  | nil => intro _; rfl
  | cons b l ih =>
    intro h
    have hb := h b List.mem_cons_self
    have e : bp_v (b :: l) / 2 = (b / 2 + 128 * (bp_v l % 2)) + 256 * (bp_v l / 2) := by show (b + 256 * bp_v l) / 2 = _; omega
    rw [e]
    show _ &&& (85 + 256 * bp_k 85 l.length) = ((b / 2) &&& 85) + 256 * bp_v (l.map fun b => (b / 2) &&& 85)
    rw [bp_and (by omega) (by omega) (bp_b1 _ (Nat.mod_lt _ (by omega)) b hb), ih (fun c hc => h c (List.mem_cons_of_mem _ hc))]
theorem bp_s2 : ∀ l : List Nat, (∀ b ∈ l, b < 256) → ((bp_v l / 4) &&& bp_k 51 l.length) = bp_v (l.map fun b => (b / 4) &&& 51) := by
  intro l
  induction l with
  | nil => intro _; rfl
  | cons b l ih =>
    intro h
    have hb := h b List.mem_cons_self
    have e : bp_v (b :: l) / 4 = (b / 4 + 64 * (bp_v l % 4)) + 256 * (bp_v l / 4) := by show (b + 256 * bp_v l) / 4 = _; omega
    rw [e]
    show _ &&& (51 + 256 * bp_k 51 l.length) = ((b / 4) &&& 51) + 256 * bp_v (l.map fun b => (b / 4) &&& 51)
    rw [bp_and (by omega) (by omega) (bp_b2 _ (Nat.mod_lt _ (by omega)) b hb), ih (fun c hc => h c (List.mem_cons_of_mem _ hc))]
theorem bp_s2' : ∀ l : List Nat, (∀ b ∈ l, b < 256) → (bp_v l &&& bp_k 51 l.length) = bp_v (l.map fun b => b &&& 51) := by
  intro l
  induction l with
  | nil => intro _; rfl
  | cons b l ih =>
    intro h
    show (b + 256 * bp_v l) &&& (51 + 256 * bp_k 51 l.length) = (b &&& 51) + 256 * bp_v (l.map fun b => b &&& 51)
    rw [bp_and (h b List.mem_cons_self) (by omega) rfl, ih (fun c hc => h c (List.mem_cons_of_mem _ hc))]
theorem bp_sub : ∀ (l : List Nat) (f g : Nat → Nat), (∀ b ∈ l, g b ≤ f b) → bp_v (l.map f) - bp_v (l.map g) = bp_v (l.map fun b => f b - g b) ∧ bp_v (l.map g) ≤ bp_v (l.map f) := by
  intro l f g
  induction l with
  | nil => intro _; exact ⟨rfl, Nat.le_refl 0⟩
  | cons b l ih =>
    intro h
    obtain ⟨i1, i2⟩ := ih (fun c hc => h c (List.mem_cons_of_mem _ hc))
    have hb := h b List.mem_cons_self
    show (f b + 256 * bp_v (l.map f)) - (g b + 256 * bp_v (l.map g)) = (f b - g b) + 256 * bp_v (l.map fun b => f b - g b) ∧ g b + 256 * bp_v (l.map g) ≤ f b + 256 * bp_v (l.map f)
    rw [← i1]
    omega
theorem bp_add : ∀ (l : List Nat) (f g : Nat → Nat), bp_v (l.map f) + bp_v (l.map g) = bp_v (l.map fun b => f b + g b) := by
  intro l f g
  induction l with
  | nil => rfl
  | cons b l ih =>
    show (f b + 256 * bp_v (l.map f)) + (g b + 256 * bp_v (l.map g)) = (f b + g b) + 256 * bp_v (l.map fun b => f b + g b)
    rw [← ih]; omega
theorem bp_b3 : ∀ t, t < 5 → ∀ b, b < 69 → (16 * t + (b + b / 16)) &&& 15 = (b + b / 16) &&& 15 := by decide +kernel
theorem bp_s3 : ∀ l : List Nat, (∀ b ∈ l, b < 69 ∧ b % 16 < 5) → ((bp_v l + bp_v l / 16) &&& bp_k 15 l.length) = bp_v (l.map bp_f3) := by
  intro l
  induction l with
  | nil => intro _; rfl
  | cons b l ih =>
    intro h
    have hb := h b List.mem_cons_self
    have ht : bp_v l % 16 < 5 := by
      cases l with
      | nil => show 0 % 16 < 5; omega
      | cons d l =>
        have := (h d (List.mem_cons_of_mem _ List.mem_cons_self)).2
        show (d + 256 * bp_v l) % 16 < 5
        omega
    have e : bp_v (b :: l) + bp_v (b :: l) / 16 = (16 * (bp_v l % 16) + (b + b / 16)) + 256 * (bp_v l + bp_v l / 16) := by show (b + 256 * bp_v l) + (b + 256 * bp_v l) / 16 = _; omega
    rw [e]
    show _ &&& (15 + 256 * bp_k 15 l.length) = bp_f3 b + 256 * bp_v (l.map bp_f3)
    rw [bp_and (by omega) (by omega) (bp_b3 _ ht b hb.1), ih (fun c hc => h c (List.mem_cons_of_mem _ hc))]
    rfl
/-- bits of a number -/
def bp_c (x : Nat) : Nat → Nat
  | 0 => 0
  | n + 1 => bp_c x n + (x.testBit n).toNat
theorem bp_f : ∀ b, b < 256 → bp_f1 b < 256 ∧ ((b / 2) &&& 85) ≤ b ∧ bp_f2 (bp_f1 b) < 69 ∧ bp_f2 (bp_f1 b) % 16 < 5 ∧ bp_f3 (bp_f2 (bp_f1 b)) = bp_c b 8 := by decide +kernel
def bp_sum : List Nat → Nat
  | [] => 0
  | b :: bs => b + bp_sum bs
theorem bp_c8 {b h : Nat} (hb : b < 256) : ∀ n, bp_c (b + 256 * h) (8 + n) = bp_c b 8 + bp_c h n := by
  have lo : ∀ k, k ≤ 8 → bp_c (b + 256 * h) k = bp_c b k := by
    intro k
    induction k with
    | zero => intro _; rfl
    | succ k ih =>
      intro hk
      show bp_c (b + 256 * h) k + ((b + 256 * h).testBit k).toNat = bp_c b k + (b.testBit k).toNat
      rw [ih (by omega)]
      have : (b + 256 * h).testBit k = b.testBit k := by
        have e : b = (b + 256 * h) % 2 ^ 8 := by omega
        rw [e, Nat.testBit_mod_two_pow, ← e]
        simp [show k < 8 by omega]
      rw [this]
  intro n
  induction n with
  | zero => rw [Nat.add_zero, lo 8 (Nat.le_refl 8)]; rfl
  | succ n ih =>
    show bp_c (b + 256 * h) (8 + n) + ((b + 256 * h).testBit (8 + n)).toNat = bp_c b 8 + (bp_c h n + (h.testBit n).toNat)
    rw [ih]
    have e : (b + 256 * h) / 2 ^ 8 = h := by omega
    have : (b + 256 * h).testBit (8 + n) = ((b + 256 * h) / 2 ^ 8).testBit n := by rw [Nat.testBit_div_two_pow, Nat.add_comm 8 n]
    rw [this, e]
    omega
theorem bp_cnt : ∀ l : List Nat, (∀ b ∈ l, b < 256) → bp_c (bp_v l) (8 * l.length) = bp_sum (l.map fun b => bp_c b 8) := by
  intro l
  induction l with
  | nil => intro _; rfl
  | cons b l ih =>
    intro h
    have e : 8 * (b :: l).length = 8 + 8 * l.length := by simp only [List.length_cons]; omega
    rw [e]
    show bp_c (b + 256 * bp_v l) (8 + 8 * l.length) = bp_c b 8 + bp_sum (l.map fun b => bp_c b 8)
    rw [bp_c8 (h b List.mem_cons_self), ih (fun c hc => h c (List.mem_cons_of_mem _ hc))]
def bp_by : Nat → Nat → List Nat
  | 0, _ => []
  | n + 1, x => x % 256 :: bp_by n (x / 256)
theorem bp_by_v : ∀ (n x : Nat), x < 256 ^ n → bp_v (bp_by n x) = x := by
  intro n
  induction n with
  | zero => intro x h; have : x = 0 := by simpa using h
            subst this; rfl
  | succ n ih =>
    intro x h
    have h1 : x / 256 < 256 ^ n := Nat.div_lt_of_lt_mul (by rw [Nat.pow_succ, Nat.mul_comm] at h; exact h)
    show x % 256 + 256 * bp_v (bp_by n (x / 256)) = x
    rw [ih _ h1]
    exact Nat.mod_add_div x 256
theorem bp_by_lt : ∀ (n x : Nat), ∀ b ∈ bp_by n x, b < 256 := by
  intro n
  induction n with
  | zero => intro x b h; cases h
  | succ n ih =>
    intro x b h
    rcases List.mem_cons.mp h with h | h
    · rw [h]; exact Nat.mod_lt _ (by decide)
    · exact ih _ b h
def bp_bytes (x : Nat) : List Nat := [x % 256, x / 256 % 256, x / 256 / 256 % 256, x / 256 / 256 / 256 % 256, x / 256 / 256 / 256 / 256 % 256, x / 256 / 256 / 256 / 256 / 256 % 256, x / 256 / 256 / 256 / 256 / 256 / 256 % 256, x / 256 / 256 / 256 / 256 / 256 / 256 / 256 % 256]
theorem bp_bytes_e (x : Nat) : bp_bytes x = bp_by 8 x := rfl
theorem bp_bytes_v {x : Nat} (h : x < 18446744073709551616) : bp_v (bp_bytes x) = x := by
  rw [bp_bytes_e]
  exact bp_by_v 8 x h
theorem bp_bytes_lt (x : Nat) : ∀ b ∈ bp_bytes x, b < 256 := by
  rw [bp_bytes_e]
  exact bp_by_lt 8 x
theorem bp_c8le (b : Nat) : bp_c b 8 ≤ 8 := by
  have h : ∀ n, bp_c b n ≤ n := by
    intro n
    induction n with
    | zero => exact Nat.le_refl 0
    | succ n ih =>
      show bp_c b n + (b.testBit n).toNat ≤ n + 1
      have := Bool.toNat_le (b.testBit n)
      omega
  exact h 8
theorem bp_dv {A m : Nat} (C : Nat) (h : A < m) : (A + m * C) / m = C := by
  rw [Nat.add_mul_div_left _ _ (by omega), Nat.div_eq_of_lt h, Nat.zero_add]
theorem bp_i1 (c0 c1 c2 c3 c4 c5 c6 c7 : Nat) : (c0 + 256 * (c1 + 256 * (c2 + 256 * (c3 + 256 * (c4 + 256 * (c5 + 256 * (c6 + 256 * (c7 + 256 * 0)))))))) + (c1 + 256 * (c2 + 256 * (c3 + 256 * (c4 + 256 * (c5 + 256 * (c6 + 256 * (c7 + 256 * 0))))))) = ((c0 + c1) + 256 * (c1 + c2)) + 65536 * ((c2 + c3) + 256 * ((c3 + c4) + 256 * ((c4 + c5) + 256 * ((c5 + c6) + 256 * ((c6 + c7) + 256 * c7))))) := by omega
theorem bp_i2 (c0 c1 c2 c3 c4 c5 c6 c7 : Nat) : (((c0 + c1) + 256 * (c1 + c2)) + 65536 * ((c2 + c3) + 256 * ((c3 + c4) + 256 * ((c4 + c5) + 256 * ((c5 + c6) + 256 * ((c6 + c7) + 256 * c7)))))) + ((c2 + c3) + 256 * ((c3 + c4) + 256 * ((c4 + c5) + 256 * ((c5 + c6) + 256 * ((c6 + c7) + 256 * c7))))) = ((c0 + c1 + c2 + c3) + 256 * (c1 + c2 + c3 + c4) + 65536 * (c2 + c3 + c4 + c5) + 16777216 * (c3 + c4 + c5 + c6)) + 4294967296 * ((c4 + c5 + c6 + c7) + 256 * ((c5 + c6 + c7) + 256 * ((c6 + c7) + 256 * c7))) := by omega
theorem bp_i3 (c0 c1 c2 c3 c4 c5 c6 c7 : Nat) : ∃ K, (((c0 + c1 + c2 + c3) + 256 * (c1 + c2 + c3 + c4) + 65536 * (c2 + c3 + c4 + c5) + 16777216 * (c3 + c4 + c5 + c6)) + 4294967296 * ((c4 + c5 + c6 + c7) + 256 * ((c5 + c6 + c7) + 256 * ((c6 + c7) + 256 * c7)))) + ((c4 + c5 + c6 + c7) + 256 * ((c5 + c6 + c7) + 256 * ((c6 + c7) + 256 * c7))) = (c0 + c1 + c2 + c3 + c4 + c5 + c6 + c7) + 128 * K := by
  refine ⟨2 * (c1 + c2 + c3 + c4) + 512 * (c2 + c3 + c4 + c5) + 131072 * (c3 + c4 + c5 + c6) + 33554432 * ((c4 + c5 + c6 + c7) + 256 * ((c5 + c6 + c7) + 256 * ((c6 + c7) + 256 * c7))) + 2 * ((c5 + c6 + c7) + 256 * ((c6 + c7) + 256 * c7)), ?_⟩
  omega
theorem bp_b8 (c0 c1 c2 c3 c4 c5 c6 c7 : Nat) (h0 : c0 ≤ 8) (h1 : c1 ≤ 8) (h2 : c2 ≤ 8) (h3 : c3 ≤ 8) (h4 : c4 ≤ 8) (h5 : c5 ≤ 8) (h6 : c6 ≤ 8) (h7 : c7 ≤ 8) : ((c0 + c1) + 256 * (c1 + c2)) < 65536 ∧ ((c0 + c1 + c2 + c3) + 256 * (c1 + c2 + c3 + c4) + 65536 * (c2 + c3 + c4 + c5) + 16777216 * (c3 + c4 + c5 + c6)) < 4294967296 ∧ ((c2 + c3) + 256 * ((c3 + c4) + 256 * ((c4 + c5) + 256 * ((c5 + c6) + 256 * ((c6 + c7) + 256 * c7))))) ≤ 9000000000000 ∧ ((c4 + c5 + c6 + c7) + 256 * ((c5 + c6 + c7) + 256 * ((c6 + c7) + 256 * c7))) ≤ 136000000 := by
  refine ⟨by omega, by omega, by omega, by omega⟩
theorem bp_e1 {P Q : Nat} (h : P < 65536) (h2 : Q ≤ 9000000000000) : P + 65536 * Q < 18446744073709551616 := by omega
theorem bp_e2 {P Q : Nat} (h : P < 4294967296) (h2 : Q ≤ 136000000) : P + 4294967296 * Q < 18446744073709551616 ∧ (P + 4294967296 * Q) + Q < 18446744073709551616 := by omega
theorem bp_fin (c0 c1 c2 c3 c4 c5 c6 c7 : Nat) (h0 : c0 ≤ 8) (h1 : c1 ≤ 8) (h2 : c2 ≤ 8) (h3 : c3 ≤ 8) (h4 : c4 ≤ 8) (h5 : c5 ≤ 8) (h6 : c6 ≤ 8) (h7 : c7 ≤ 8) (y y1 y2 y3 : Nat)
    (ey : y = c0 + 256 * (c1 + 256 * (c2 + 256 * (c3 + 256 * (c4 + 256 * (c5 + 256 * (c6 + 256 * (c7 + 256 * 0)))))))) (e1 : y1 = y + y / 256) (e2 : y2 = y1 + y1 / 65536) (e3 : y3 = y2 + y2 / 4294967296) :
    y3 % 128 = c0 + c1 + c2 + c3 + c4 + c5 + c6 + c7 ∧ y1 < 18446744073709551616 ∧ y2 < 18446744073709551616 ∧ y3 < 18446744073709551616 := by
  obtain ⟨b1, b2, b3, b4⟩ := bp_b8 c0 c1 c2 c3 c4 c5 c6 c7 h0 h1 h2 h3 h4 h5 h6 h7
  have i1 := bp_i1 c0 c1 c2 c3 c4 c5 c6 c7
  have i2 := bp_i2 c0 c1 c2 c3 c4 c5 c6 c7
  obtain ⟨K, i3⟩ := bp_i3 c0 c1 c2 c3 c4 c5 c6 c7
  have z1 : y1 = ((c0 + c1) + 256 * (c1 + c2)) + 65536 * ((c2 + c3) + 256 * ((c3 + c4) + 256 * ((c4 + c5) + 256 * ((c5 + c6) + 256 * ((c6 + c7) + 256 * c7))))) := by rw [e1, ey, bp_dv _ (Nat.lt_of_le_of_lt h0 (by decide))]; exact i1
  have z2 : y2 = ((c0 + c1 + c2 + c3) + 256 * (c1 + c2 + c3 + c4) + 65536 * (c2 + c3 + c4 + c5) + 16777216 * (c3 + c4 + c5 + c6)) + 4294967296 * ((c4 + c5 + c6 + c7) + 256 * ((c5 + c6 + c7) + 256 * ((c6 + c7) + 256 * c7))) := by rw [e2, z1, bp_dv _ b1]; exact i2
  have z3 : y3 = (((c0 + c1 + c2 + c3) + 256 * (c1 + c2 + c3 + c4) + 65536 * (c2 + c3 + c4 + c5) + 16777216 * (c3 + c4 + c5 + c6)) + 4294967296 * ((c4 + c5 + c6 + c7) + 256 * ((c5 + c6 + c7) + 256 * ((c6 + c7) + 256 * c7)))) + ((c4 + c5 + c6 + c7) + 256 * ((c5 + c6 + c7) + 256 * ((c6 + c7) + 256 * c7))) := by rw [e3, z2, bp_dv _ b2]
  have w3 : y3 = (c0 + c1 + c2 + c3 + c4 + c5 + c6 + c7) + 128 * K := by rw [z3]; exact i3
  have hs : c0 + c1 + c2 + c3 + c4 + c5 + c6 + c7 < 128 := by
    clear i1 i2 i3 z1 z2 z3 w3 e1 e2 e3 ey b1 b2 b3 b4
    omega
  refine ⟨by rw [w3, Nat.add_mul_mod_self_left, Nat.mod_eq_of_lt hs], ?_, ?_, ?_⟩
  · rw [z1]; exact bp_e1 b1 b3
  · rw [z2]; exact (bp_e2 b2 b4).1
  · rw [z3]; exact (bp_e2 b2 b4).2
theorem bp_h {x : Nat} (h : x < 5000000000000000000) : x < 18446744073709551616 ∧ x + x / 16 < 18446744073709551616 := by omega
theorem bp_69 (c0 c1 c2 c3 c4 c5 c6 c7 : Nat) (h0 : c0 < 69) (h1 : c1 < 69) (h2 : c2 < 69) (h3 : c3 < 69) (h4 : c4 < 69) (h5 : c5 < 69) (h6 : c6 < 69) (h7 : c7 < 69) :
    c0 + 256 * (c1 + 256 * (c2 + 256 * (c3 + 256 * (c4 + 256 * (c5 + 256 * (c6 + 256 * (c7 + 256 * 0))))))) < 5000000000000000000 := by omega
/-- the whole of it, on numbers below 2^64 -/
theorem bp_all {x x1 x2 x3 y1 y2 y3 : Nat} (hx : x < 18446744073709551616) (e1 : x1 = x - ((x / 2) &&& 6148914691236517205)) (e2 : x2 = (x1 &&& 3689348814741910323) + ((x1 / 4) &&& 3689348814741910323))
    (e3 : x3 = (x2 + x2 / 16) &&& 1085102592571150095) (f1 : y1 = x3 + x3 / 256) (f2 : y2 = y1 + y1 / 65536) (f3 : y3 = y2 + y2 / 4294967296) :
    y3 % 128 = bp_c x 64 ∧ ((x / 2) &&& 6148914691236517205) ≤ x ∧ x2 < 18446744073709551616 ∧ x2 + x2 / 16 < 18446744073709551616 ∧ y1 < 18446744073709551616 ∧ y2 < 18446744073709551616 ∧ y3 < 18446744073709551616 := by
  have hv := bp_bytes_v hx
  have hl := bp_bytes_lt x
  have hc := bp_cnt (bp_bytes x) hl
  have hlen : (bp_bytes x).length = 8 := rfl
  rw [hv] at hc
  have s1 := bp_s1 (bp_bytes x) hl
  rw [hv] at s1
  have k1 : bp_k 85 (bp_bytes x).length = 6148914691236517205 := rfl
  rw [k1] at s1
  have d1 := bp_sub (bp_bytes x) (fun b => b) (fun b => (b / 2) &&& 85) (fun b hb => (bp_f b (hl b hb)).2.1)
  rw [List.map_id' (bp_bytes x), hv] at d1
  rw [← s1] at d1
  have z1 : x1 = bp_v ((bp_bytes x).map bp_f1) := by rw [e1, d1.1]; rfl
  have l1 : ∀ b ∈ (bp_bytes x).map bp_f1, b < 256 := by
    intro b hb
    obtain ⟨a, ha, rfl⟩ := List.mem_map.mp hb
    exact (bp_f a (hl a ha)).1
  have k2 : bp_k 51 ((bp_bytes x).map bp_f1).length = 3689348814741910323 := rfl
  have s2 := bp_s2 _ l1
  have s2' := bp_s2' _ l1
  rw [k2, ← z1] at s2 s2'
  have z2 : x2 = bp_v ((bp_bytes x).map fun b => bp_f2 (bp_f1 b)) := by
    rw [e2, s2, s2', bp_add, List.map_map]; rfl
  have l2 : ∀ b ∈ (bp_bytes x).map (fun b => bp_f2 (bp_f1 b)), b < 69 ∧ b % 16 < 5 := by
    intro b hb
    obtain ⟨a, ha, rfl⟩ := List.mem_map.mp hb
    have := bp_f a (hl a ha)
    exact ⟨this.2.2.1, this.2.2.2.1⟩
  have k3 : bp_k 15 ((bp_bytes x).map (fun b => bp_f2 (bp_f1 b))).length = 1085102592571150095 := rfl
  have s3 := bp_s3 _ l2
  rw [k3, ← z2] at s3
  have z3 : x3 = bp_v ((bp_bytes x).map fun b => bp_c b 8) := by
    rw [e3, s3, List.map_map]
    congr 1
    refine List.map_congr_left fun a ha => ?_
    exact (bp_f a (hl a ha)).2.2.2.2
  have hx2 : x2 < 5000000000000000000 := by
    rw [z2]
    have q := fun a => (bp_f (a % 256) (Nat.mod_lt _ (by decide))).2.2.1
    simp only [bp_bytes, List.map_cons, List.map_nil, bp_v]
    exact bp_69 _ _ _ _ _ _ _ _ (q (x)) (q (x / 256)) (q (x / 256 / 256)) (q (x / 256 / 256 / 256)) (q (x / 256 / 256 / 256 / 256)) (q (x / 256 / 256 / 256 / 256 / 256)) (q (x / 256 / 256 / 256 / 256 / 256 / 256)) (q (x / 256 / 256 / 256 / 256 / 256 / 256 / 256))
  simp only [bp_bytes, List.map_cons, List.map_nil, bp_v] at z3
  have fin := bp_fin _ _ _ _ _ _ _ _ (bp_c8le (x % 256)) (bp_c8le (x / 256 % 256)) (bp_c8le (x / 256 / 256 % 256)) (bp_c8le (x / 256 / 256 / 256 % 256)) (bp_c8le (x / 256 / 256 / 256 / 256 % 256)) (bp_c8le (x / 256 / 256 / 256 / 256 / 256 % 256)) (bp_c8le (x / 256 / 256 / 256 / 256 / 256 / 256 % 256)) (bp_c8le (x / 256 / 256 / 256 / 256 / 256 / 256 / 256 % 256)) x3 y1 y2 y3 z3 f1 f2 f3
  refine ⟨?_, d1.2, (bp_h hx2).1, (bp_h hx2).2, fin.2.1, fin.2.2.1, fin.2.2.2⟩
  rw [fin.1]
  have : bp_c x 64 = bp_c x (8 * (bp_bytes x).length) := rfl
  rw [this, hc]
  simp only [bp_bytes, List.map_cons, List.map_nil, bp_sum, Nat.add_assoc, Nat.add_zero]
end
section
/-! Long.bitCount's own arithmetic, on longs -/
def bu (x : Int64) : Nat := x.toUInt64.toNat
theorem bu_lt (x : Int64) : bu x < 18446744073709551616 := x.toUInt64.toNat_lt
theorem bu_add {x y : Int64} (h : bu x + bu y < 18446744073709551616) : bu (x + y) = bu x + bu y := by
  show (x.toUInt64 + y.toUInt64).toNat = _
  rw [UInt64.toNat_add]
  exact Nat.mod_eq_of_lt h
theorem bu_sub {x y : Int64} (h : bu y ≤ bu x) : bu (x - y) = bu x - bu y := by
  show (x.toUInt64 - y.toUInt64).toNat = _
  exact UInt64.toNat_sub_of_le _ _ (UInt64.le_iff_toNat_le.mpr h)
theorem bu_and (x y : Int64) : bu (x &&& y) = bu x &&& bu y := UInt64.toNat_and _ _
theorem bu_shr (x : Int64) (s : UInt64) {k : Nat} (h : s.toNat % 64 = k) : bu (x.toUInt64 >>> s).toInt64 = bu x / 2 ^ k := by
  show (x.toUInt64 >>> s).toNat = _
  rw [UInt64.toNat_shiftRight, Nat.shiftRight_eq_div_pow, h]
  rfl
theorem bu_c (x : Int64) (n : Nat) : bw_c x n = bp_c (bu x) n := by
  induction n with
  | zero => rfl
  | succ n ih =>
    show bw_c x n + (bw_m x n).toNat = bp_c (bu x) n + ((bu x).testBit n).toNat
    rw [ih]; rfl
theorem bu_low (x : Int64) : x.toInt32 &&& 127 = nI (bu x % 128) := by
  rw [pk_and x.toInt32 (m := 127) 7 (by decide)]
  congr 1
  rw [Int64.toBitVec_toInt32]
  have : (BitVec.signExtend 32 x.toBitVec).toNat = bu x % 2 ^ 32 := by
    rw [BitVec.signExtend_eq_setWidth_of_le _ (by decide), BitVec.toNat_setWidth]; rfl
  rw [this]
  omega
theorem bw_pop {x x1 x2 x3 y1 y2 y3 : Int64} (e1 : x1 = x - ((x.toUInt64 >>> ((1 : Int32).toInt64.toUInt64 &&& Int64.toUInt64 63)).toInt64 &&& 6148914691236517205))
    (e2 : x2 = (x1 &&& 3689348814741910323) + ((x1.toUInt64 >>> ((2 : Int32).toInt64.toUInt64 &&& Int64.toUInt64 63)).toInt64 &&& 3689348814741910323))
    (e3 : x3 = (x2 + (x2.toUInt64 >>> ((4 : Int32).toInt64.toUInt64 &&& Int64.toUInt64 63)).toInt64) &&& 1085102592571150095)
    (f1 : y1 = x3 + (x3.toUInt64 >>> ((8 : Int32).toInt64.toUInt64 &&& Int64.toUInt64 63)).toInt64) (f2 : y2 = y1 + (y1.toUInt64 >>> ((16 : Int32).toInt64.toUInt64 &&& Int64.toUInt64 63)).toInt64)
    (f3 : y3 = y2 + (y2.toUInt64 >>> ((32 : Int32).toInt64.toUInt64 &&& Int64.toUInt64 63)).toInt64) : y3.toInt32 &&& 127 = nI (bw_c x 64) := by
  obtain ⟨h1, h2, h3, h4, h5, h6, h7⟩ := bp_all (bu_lt x) rfl rfl rfl rfl rfl rfl
  have m1 : bu 6148914691236517205 = 6148914691236517205 := by decide +kernel
  have m2 : bu 3689348814741910323 = 3689348814741910323 := by decide +kernel
  have m3 : bu 1085102592571150095 = 1085102592571150095 := by decide +kernel
  have s1 : bu (x.toUInt64 >>> ((1 : Int32).toInt64.toUInt64 &&& Int64.toUInt64 63)).toInt64 = bu x / 2 := bu_shr x _ (k := 1) (by decide +kernel)
  have g1 : bu x1 = bu x - ((bu x / 2) &&& 6148914691236517205) := by
    rw [e1, bu_sub (by rw [bu_and, s1, m1]; exact h2), bu_and, s1, m1]
  rw [← g1] at h1 h3 h4 h5 h6 h7
  have s2 : bu (x1.toUInt64 >>> ((2 : Int32).toInt64.toUInt64 &&& Int64.toUInt64 63)).toInt64 = bu x1 / 4 := bu_shr x1 _ (k := 2) (by decide +kernel)
  have g2 : bu x2 = (bu x1 &&& 3689348814741910323) + ((bu x1 / 4) &&& 3689348814741910323) := by
    rw [e2, bu_add (by rw [bu_and, bu_and, s2, m2]; exact h3), bu_and, bu_and, s2, m2]
  rw [← g2] at h1 h4 h5 h6 h7
  have s3 : bu (x2.toUInt64 >>> ((4 : Int32).toInt64.toUInt64 &&& Int64.toUInt64 63)).toInt64 = bu x2 / 16 := bu_shr x2 _ (k := 4) (by decide +kernel)
  have g3 : bu x3 = (bu x2 + bu x2 / 16) &&& 1085102592571150095 := by
    rw [e3, bu_and, bu_add (by rw [s3]; exact h4), s3, m3]
  rw [← g3] at h1 h5 h6 h7
  have s4 : bu (x3.toUInt64 >>> ((8 : Int32).toInt64.toUInt64 &&& Int64.toUInt64 63)).toInt64 = bu x3 / 256 := bu_shr x3 _ (k := 8) (by decide +kernel)
  have k1 : bu y1 = bu x3 + bu x3 / 256 := by rw [f1, bu_add (by rw [s4]; exact h5), s4]
  rw [← k1] at h1 h6 h7
  have s5 : bu (y1.toUInt64 >>> ((16 : Int32).toInt64.toUInt64 &&& Int64.toUInt64 63)).toInt64 = bu y1 / 65536 := bu_shr y1 _ (k := 16) (by decide +kernel)
  have k2 : bu y2 = bu y1 + bu y1 / 65536 := by rw [f2, bu_add (by rw [s5]; exact h6), s5]
  rw [← k2] at h1 h7
  have s6 : bu (y2.toUInt64 >>> ((32 : Int32).toInt64.toUInt64 &&& Int64.toUInt64 63)).toInt64 = bu y2 / 4294967296 := bu_shr y2 _ (k := 32) (by decide +kernel)
  have k3 : bu y3 = bu y2 + bu y2 / 4294967296 := by rw [f3, bu_add (by rw [s6]; exact h7), s6]
  rw [← k3] at h1
  rw [bu_low, h1, bu_c]
end
section
-- ===== PART A: goes FIRST, ahead of the names: the tables' words, and 'selects' of the private methods out of them =====
/-- a private method of a class that the tables say can be made, by its rows of tables_1 -/
def lw_okq (q : MethodName × Nat) : Prop := (q.1.cls ≠ "java/lang/invoke/MethodHandle" ∧ q.1.cls ≠ "java/lang/invoke/VarHandle") ∧ Cond.instantiable q.1.cls q.2 ∈ tables_1 ∧ Cond.privateMethod q.1 ∈ tables_1 ∧ Cond.instanceMethod q.1 ∈ tables_1
theorem lw_p0 : lw_okq (⟨"BlockWays", "forgetAnswers", "()V"⟩, 7) := ⟨⟨by decide +kernel, by decide +kernel⟩, List.mem_of_getElem? (i := 12) (by decide +kernel), List.mem_of_getElem? (i := 83) (by decide +kernel), List.mem_of_getElem? (i := 84) (by decide +kernel)⟩
theorem lw_p1 : lw_okq (⟨"BlockWays", "isTold", "(I)Z"⟩, 7) := ⟨⟨by decide +kernel, by decide +kernel⟩, List.mem_of_getElem? (i := 12) (by decide +kernel), List.mem_of_getElem? (i := 91) (by decide +kernel), List.mem_of_getElem? (i := 92) (by decide +kernel)⟩
theorem lw_p2 : lw_okq (⟨"BlockWays", "freshOnward", "()LBlockWays$Spread;"⟩, 7) := ⟨⟨by decide +kernel, by decide +kernel⟩, List.mem_of_getElem? (i := 12) (by decide +kernel), List.mem_of_getElem? (i := 124) (by decide +kernel), List.mem_of_getElem? (i := 125) (by decide +kernel)⟩
theorem lw_p3 : lw_okq (⟨"BlockWays", "renewOnward", "()V"⟩, 7) := ⟨⟨by decide +kernel, by decide +kernel⟩, List.mem_of_getElem? (i := 12) (by decide +kernel), List.mem_of_getElem? (i := 128) (by decide +kernel), List.mem_of_getElem? (i := 129) (by decide +kernel)⟩
theorem lw_p4 : lw_okq (⟨"BlockWays", "freshBackward", "()LBlockWays$Spread;"⟩, 7) := ⟨⟨by decide +kernel, by decide +kernel⟩, List.mem_of_getElem? (i := 12) (by decide +kernel), List.mem_of_getElem? (i := 164) (by decide +kernel), List.mem_of_getElem? (i := 165) (by decide +kernel)⟩
theorem lw_p5 : lw_okq (⟨"BlockWays", "ends", "()J"⟩, 7) := ⟨⟨by decide +kernel, by decide +kernel⟩, List.mem_of_getElem? (i := 12) (by decide +kernel), List.mem_of_getElem? (i := 168) (by decide +kernel), List.mem_of_getElem? (i := 169) (by decide +kernel)⟩
theorem lw_p6 : lw_okq (⟨"BlockWays", "freshRounds", "()LBlockWays$Rounds;"⟩, 7) := ⟨⟨by decide +kernel, by decide +kernel⟩, List.mem_of_getElem? (i := 12) (by decide +kernel), List.mem_of_getElem? (i := 172) (by decide +kernel), List.mem_of_getElem? (i := 173) (by decide +kernel)⟩
theorem lw_p7 : lw_okq (⟨"BlockWays", "isPlain", "()Z"⟩, 7) := ⟨⟨by decide +kernel, by decide +kernel⟩, List.mem_of_getElem? (i := 12) (by decide +kernel), List.mem_of_getElem? (i := 192) (by decide +kernel), List.mem_of_getElem? (i := 193) (by decide +kernel)⟩
theorem lw_p8 : lw_okq (⟨"java/lang/Throwable", "fillInStackTrace", "(I)Ljava/lang/Throwable;"⟩, 6) := ⟨⟨by decide +kernel, by decide +kernel⟩, List.mem_of_getElem? (i := 286) (by decide +kernel), List.mem_of_getElem? (i := 284) (by decide +kernel), List.mem_of_getElem? (i := 285) (by decide +kernel)⟩
theorem lw_p9 : lw_okq (⟨"BlockWaysModel", "look", "()V"⟩, 15) := ⟨⟨by decide +kernel, by decide +kernel⟩, List.mem_of_getElem? (i := 316) (by decide +kernel), List.mem_of_getElem? (i := 398) (by decide +kernel), List.mem_of_getElem? (i := 399) (by decide +kernel)⟩
theorem lw_p10 : lw_okq (⟨"BlockWaysModel", "comeTo", "(I)J"⟩, 15) := ⟨⟨by decide +kernel, by decide +kernel⟩, List.mem_of_getElem? (i := 316) (by decide +kernel), List.mem_of_getElem? (i := 402) (by decide +kernel), List.mem_of_getElem? (i := 403) (by decide +kernel)⟩
theorem lw_p11 : lw_okq (⟨"BlockWaysModel", "leadTo", "(JI)J"⟩, 15) := ⟨⟨by decide +kernel, by decide +kernel⟩, List.mem_of_getElem? (i := 316) (by decide +kernel), List.mem_of_getElem? (i := 406) (by decide +kernel), List.mem_of_getElem? (i := 407) (by decide +kernel)⟩
theorem lw_p12 : lw_okq (⟨"BlockWaysModel", "lookAtRounds", "()V"⟩, 15) := ⟨⟨by decide +kernel, by decide +kernel⟩, List.mem_of_getElem? (i := 316) (by decide +kernel), List.mem_of_getElem? (i := 410) (by decide +kernel), List.mem_of_getElem? (i := 411) (by decide +kernel)⟩
theorem lw_p13 : lw_okq (⟨"BlockWaysModel", "lookAtEdges", "()V"⟩, 15) := ⟨⟨by decide +kernel, by decide +kernel⟩, List.mem_of_getElem? (i := 316) (by decide +kernel), List.mem_of_getElem? (i := 414) (by decide +kernel), List.mem_of_getElem? (i := 415) (by decide +kernel)⟩
theorem lw_p14 : lw_okq (⟨"BlockWaysModel", "in", "(I)I"⟩, 15) := ⟨⟨by decide +kernel, by decide +kernel⟩, List.mem_of_getElem? (i := 316) (by decide +kernel), List.mem_of_getElem? (i := 421) (by decide +kernel), List.mem_of_getElem? (i := 422) (by decide +kernel)⟩
theorem lw_p15 : lw_okq (⟨"BlockWaysModel", "hangsOn", "(I)J"⟩, 15) := ⟨⟨by decide +kernel, by decide +kernel⟩, List.mem_of_getElem? (i := 316) (by decide +kernel), List.mem_of_getElem? (i := 440) (by decide +kernel), List.mem_of_getElem? (i := 441) (by decide +kernel)⟩
def lw_privs_1 : List (MethodName × Nat) := [(⟨"BlockWays", "forgetAnswers", "()V"⟩, 7), (⟨"BlockWays", "isTold", "(I)Z"⟩, 7), (⟨"BlockWays", "freshOnward", "()LBlockWays$Spread;"⟩, 7), (⟨"BlockWays", "renewOnward", "()V"⟩, 7), (⟨"BlockWays", "freshBackward", "()LBlockWays$Spread;"⟩, 7), (⟨"BlockWays", "ends", "()J"⟩, 7), (⟨"BlockWays", "freshRounds", "()LBlockWays$Rounds;"⟩, 7), (⟨"BlockWays", "isPlain", "()Z"⟩, 7), (⟨"java/lang/Throwable", "fillInStackTrace", "(I)Ljava/lang/Throwable;"⟩, 6), (⟨"BlockWaysModel", "look", "()V"⟩, 15), (⟨"BlockWaysModel", "comeTo", "(I)J"⟩, 15), (⟨"BlockWaysModel", "leadTo", "(JI)J"⟩, 15), (⟨"BlockWaysModel", "lookAtRounds", "()V"⟩, 15), (⟨"BlockWaysModel", "lookAtEdges", "()V"⟩, 15), (⟨"BlockWaysModel", "in", "(I)I"⟩, 15), (⟨"BlockWaysModel", "hangsOn", "(I)J"⟩, 15)]
theorem lw_r1 : ∀ q ∈ lw_privs_1, lw_okq q := List.forall_mem_cons.mpr ⟨lw_p0, List.forall_mem_cons.mpr ⟨lw_p1, List.forall_mem_cons.mpr ⟨lw_p2, List.forall_mem_cons.mpr ⟨lw_p3, List.forall_mem_cons.mpr ⟨lw_p4, List.forall_mem_cons.mpr ⟨lw_p5, List.forall_mem_cons.mpr ⟨lw_p6, List.forall_mem_cons.mpr ⟨lw_p7, List.forall_mem_cons.mpr ⟨lw_p8, List.forall_mem_cons.mpr ⟨lw_p9, List.forall_mem_cons.mpr ⟨lw_p10, List.forall_mem_cons.mpr ⟨lw_p11, List.forall_mem_cons.mpr ⟨lw_p12, List.forall_mem_cons.mpr ⟨lw_p13, List.forall_mem_cons.mpr ⟨lw_p14, List.forall_mem_cons.mpr ⟨lw_p15, fun _ h => absurd h List.not_mem_nil⟩⟩⟩⟩⟩⟩⟩⟩⟩⟩⟩⟩⟩⟩⟩⟩
theorem lw_p16 : lw_okq (⟨"BlockWaysModel", "under", "(I)J"⟩, 15) := ⟨⟨by decide +kernel, by decide +kernel⟩, List.mem_of_getElem? (i := 316) (by decide +kernel), List.mem_of_getElem? (i := 444) (by decide +kernel), List.mem_of_getElem? (i := 445) (by decide +kernel)⟩
def lw_privs_2 : List (MethodName × Nat) := [(⟨"BlockWaysModel", "under", "(I)J"⟩, 15)]
theorem lw_r2 : ∀ q ∈ lw_privs_2, lw_okq q := List.forall_mem_cons.mpr ⟨lw_p16, fun _ h => absurd h List.not_mem_nil⟩
def lw_privs : List (MethodName × Nat) := lw_privs_1 ++ (lw_privs_2)
def lw_tbl : List Cond := k2_sels lw_privs ++ tables_1
theorem lw_privs_ok : ∀ q ∈ lw_privs, lw_okq q := by
  show ∀ q ∈ lw_privs_1 ++ (lw_privs_2), lw_okq q
  exact List.forall_mem_append.mpr ⟨lw_r1, lw_r2⟩
end
section
abbrev RR : String := "BlockWays$Rounds"
def TR : u_T := fun k => match k with
  | _ => ("BlockWays$Rounds", "blocks", "[J", true)
def tyR : Nat → FieldType := fun k => match k with
  | _ => .array .long
theorem nmR : ∀ a, a < 1 → ∀ b, b < 1 → a ≠ b → (TR a).2.1 ≠ (TR b).2.1 := by decide +kernel
theorem tokR : ∀ k, k < 1 → parseFieldDescriptor (TR k).2.2.1 = some (tyR k) := by decide +kernel
abbrev RS : String := "BlockWays$Spread"
def TS : u_T := fun k => match k with
  | 0 => ("BlockWays$Spread", "steps", "[J", true)
  | 1 => ("BlockWays$Spread", "gated", "[J", true)
  | _ => ("BlockWays$Spread", "covered", "J", false)
def tyS : Nat → FieldType := fun k => match k with
  | 0 => .array .long
  | 1 => .array .long
  | _ => .long
theorem nmS : ∀ a, a < 3 → ∀ b, b < 3 → a ≠ b → (TS a).2.1 ≠ (TS b).2.1 := by decide +kernel
theorem tokS : ∀ k, k < 3 → parseFieldDescriptor (TS k).2.2.1 = some (tyS k) := by decide +kernel
abbrev RB : String := "BlockWays"
def TB : u_T := fun k => match k with
  | 0 => ("BlockWays", "told", "J", false)
  | 1 => ("BlockWays", "targetCounts", "[I", true)
  | 2 => ("BlockWays", "onward", "LBlockWays$Spread;", true)
  | 3 => ("BlockWays", "backward", "LBlockWays$Spread;", true)
  | 4 => ("BlockWays", "rounds", "LBlockWays$Rounds;", true)
  | 5 => ("BlockWays", "onwardStale", "Z", false)
  | _ => ("BlockWays", "backwardStale", "Z", false)
def tyB : Nat → FieldType := fun k => match k with
  | 0 => .long
  | 1 => .array .int
  | 2 => .object "BlockWays$Spread"
  | 3 => .object "BlockWays$Spread"
  | 4 => .object "BlockWays$Rounds"
  | 5 => .boolean
  | _ => .boolean
theorem nmB : ∀ a, a < 7 → ∀ b, b < 7 → a ≠ b → (TB a).2.1 ≠ (TB b).2.1 := by decide +kernel
theorem tokB : ∀ k, k < 7 → parseFieldDescriptor (TB k).2.2.1 = some (tyB k) := by decide +kernel
abbrev RM : String := "BlockWaysModel"
def TM : u_T := fun k => match k with
  | 0 => ("BlockWaysModel", "thrown", "I", false)
  | 1 => ("BlockWaysModel", "there", "J", false)
  | 2 => ("BlockWaysModel", "many", "[I", true)
  | 3 => ("BlockWaysModel", "targets", "[I", true)
  | 4 => ("BlockWaysModel", "known", "Z", false)
  | 5 => ("BlockWaysModel", "steps", "[J", true)
  | 6 => ("BlockWaysModel", "reached", "J", false)
  | 7 => ("BlockWaysModel", "good", "J", false)
  | 8 => ("BlockWaysModel", "ends", "J", false)
  | 9 => ("BlockWaysModel", "over", "[J", true)
  | 10 => ("BlockWaysModel", "behind", "[J", true)
  | 11 => ("BlockWaysModel", "heads", "J", false)
  | 12 => ("BlockWaysModel", "rounds", "[J", true)
  | 13 => ("BlockWaysModel", "edges", "[J", true)
  | _ => ("BlockWaysModel", "plain", "Z", false)
def tyM : Nat → FieldType := fun k => match k with
  | 0 => .int
  | 1 => .long
  | 2 => .array .int
  | 3 => .array .int
  | 4 => .boolean
  | 5 => .array .long
  | 6 => .long
  | 7 => .long
  | 8 => .long
  | 9 => .array .long
  | 10 => .array .long
  | 11 => .long
  | 12 => .array .long
  | 13 => .array .long
  | _ => .boolean
theorem nmM : ∀ a, a < 15 → ∀ b, b < 15 → a ≠ b → (TM a).2.1 ≠ (TM b).2.1 := by decide +kernel
theorem tokM : ∀ k, k < 15 → parseFieldDescriptor (TM k).2.2.1 = some (tyM k) := by decide +kernel
abbrev RL : String := "BlockWaysLaw"
abbrev RJ : String := "java/lang/Long"
/-- the classes whose objects the worlds hold -/
abbrev vwCl : List vw_C := [(RR, TR, 1), (RS, TS, 3), (RB, TB, 7), (RM, TM, 15)]
abbrev yB_init : MethodName := ⟨RB, "<init>", "()V"⟩
abbrev cB_init : ByteArray := prog_1_method_1_code
abbrev yS_init : MethodName := ⟨RS, "<init>", "()V"⟩
abbrev cS_init : ByteArray := prog_3_method_1_code
abbrev yR_init : MethodName := ⟨RR, "<init>", "()V"⟩
abbrev cR_init : ByteArray := prog_2_method_1_code
abbrev yB_block : MethodName := ⟨RB, "block", "(I)Z"⟩
abbrev cB_block : ByteArray := prog_1_method_2_code
abbrev yB_isBlock : MethodName := ⟨RB, "isBlock", "(I)Z"⟩
abbrev cB_isBlock : ByteArray := prog_1_method_12_code
abbrev yB_has : MethodName := ⟨RB, "has", "(JI)Z"⟩
abbrev cB_has : ByteArray := prog_1_method_15_code
abbrev yB_bit : MethodName := ⟨RB, "bit", "(I)J"⟩
abbrev cB_bit : ByteArray := prog_1_method_14_code
abbrev yB_forgetAnswers : MethodName := ⟨RB, "forgetAnswers", "()V"⟩
abbrev cB_forgetAnswers : ByteArray := prog_1_method_17_code
abbrev yB_target : MethodName := ⟨RB, "target", "(II)Z"⟩
abbrev cB_target : ByteArray := prog_1_method_3_code
abbrev yB_isTold : MethodName := ⟨RB, "isTold", "(I)Z"⟩
abbrev cB_isTold : ByteArray := prog_1_method_13_code
abbrev yS_addStep : MethodName := ⟨RS, "addStep", "(II)V"⟩
abbrev cS_addStep : ByteArray := prog_3_method_2_code
abbrev yB_drop : MethodName := ⟨RB, "drop", "(I)Z"⟩
abbrev cB_drop : ByteArray := prog_1_method_4_code
abbrev yS_removeStepsFrom : MethodName := ⟨RS, "removeStepsFrom", "(I)V"⟩
abbrev cS_removeStepsFrom : ByteArray := prog_3_method_3_code
abbrev yS_removeStepsTo : MethodName := ⟨RS, "removeStepsTo", "(I)V"⟩
abbrev cS_removeStepsTo : ByteArray := prog_3_method_4_code
abbrev yB_count : MethodName := ⟨RB, "count", "(I)I"⟩
abbrev cB_count : ByteArray := prog_1_method_5_code
abbrev yJ_bitCount : MethodName := ⟨RJ, "bitCount", "(J)I"⟩
abbrev cJ_bitCount : ByteArray := prog_7_method_50_code
abbrev yB_freshOnward : MethodName := ⟨RB, "freshOnward", "()LBlockWays$Spread;"⟩
abbrev cB_freshOnward : ByteArray := prog_1_method_18_code
abbrev yB_renewOnward : MethodName := ⟨RB, "renewOnward", "()V"⟩
abbrev cB_renewOnward : ByteArray := prog_1_method_20_code
abbrev yS_renew : MethodName := ⟨RS, "renew", "(JJ)V"⟩
abbrev cS_renew : ByteArray := prog_3_method_5_code
abbrev yS_flood : MethodName := ⟨RS, "flood", "(JJ)J"⟩
abbrev cS_flood : ByteArray := prog_3_method_6_code
abbrev yB_lowest : MethodName := ⟨RB, "lowest", "(J)I"⟩
abbrev cB_lowest : ByteArray := prog_1_method_16_code
abbrev yR_renew : MethodName := ⟨RR, "renew", "(LBlockWays$Spread;LBlockWays$Spread;)V"⟩
abbrev cR_renew : ByteArray := prog_2_method_2_code
abbrev yS_stepsOf : MethodName := ⟨RS, "stepsOf", "(I)J"⟩
abbrev cS_stepsOf : ByteArray := prog_3_method_8_code
abbrev yS_gated : MethodName := ⟨RS, "gated", "(I)J"⟩
abbrev cS_gated : ByteArray := prog_3_method_9_code
abbrev yS_covered : MethodName := ⟨RS, "covered", "()J"⟩
abbrev cS_covered : ByteArray := prog_3_method_7_code
abbrev yB_freshBackward : MethodName := ⟨RB, "freshBackward", "()LBlockWays$Spread;"⟩
abbrev cB_freshBackward : ByteArray := prog_1_method_21_code
abbrev yB_ends : MethodName := ⟨RB, "ends", "()J"⟩
abbrev cB_ends : ByteArray := prog_1_method_22_code
abbrev yB_freshRounds : MethodName := ⟨RB, "freshRounds", "()LBlockWays$Rounds;"⟩
abbrev cB_freshRounds : ByteArray := prog_1_method_19_code
abbrev yR_number : MethodName := ⟨RR, "number", "()I"⟩
abbrev cR_number : ByteArray := prog_2_method_4_code
abbrev yR_deepest : MethodName := ⟨RR, "deepest", "()I"⟩
abbrev cR_deepest : ByteArray := prog_2_method_6_code
abbrev yR_numberAround : MethodName := ⟨RR, "numberAround", "(I)I"⟩
abbrev cR_numberAround : ByteArray := prog_2_method_5_code
abbrev yB_isPlain : MethodName := ⟨RB, "isPlain", "()Z"⟩
abbrev cB_isPlain : ByteArray := prog_1_method_23_code
abbrev yB_lid : MethodName := ⟨RB, "lid", "(I)I"⟩
abbrev cB_lid : ByteArray := prog_1_method_6_code
abbrev yS_nearestGate : MethodName := ⟨RS, "nearestGate", "(I)I"⟩
abbrev cS_nearestGate : ByteArray := prog_3_method_11_code
abbrev yS_gates : MethodName := ⟨RS, "gates", "(I)J"⟩
abbrev cS_gates : ByteArray := prog_3_method_10_code
abbrev yB_meeting : MethodName := ⟨RB, "meeting", "(I)I"⟩
abbrev cB_meeting : ByteArray := prog_1_method_7_code
abbrev yB_set : MethodName := ⟨RB, "set", "(II)J"⟩
abbrev cB_set : ByteArray := prog_1_method_8_code
abbrev yR_blocksOf : MethodName := ⟨RR, "blocksOf", "(I)J"⟩
abbrev cR_blocksOf : ByteArray := prog_2_method_3_code
abbrev yS_rim : MethodName := ⟨RS, "rim", "(I)J"⟩
abbrev cS_rim : ByteArray := prog_3_method_12_code
abbrev yB_depth : MethodName := ⟨RB, "depth", "(I)I"⟩
abbrev cB_depth : ByteArray := prog_1_method_9_code
abbrev yB_joins : MethodName := ⟨RB, "joins", "(J)J"⟩
abbrev cB_joins : ByteArray := prog_1_method_11_code
abbrev yL_inner : MethodName := ⟨RL, "inner", "(LBlockWays;I[J)I"⟩
abbrev cL_inner : ByteArray := method_3_code
abbrev yB_inner : MethodName := ⟨RB, "inner", "(I)I"⟩
abbrev cB_inner : ByteArray := prog_1_method_10_code
abbrev yR_smallestAround : MethodName := ⟨RR, "smallestAround", "(I)I"⟩
abbrev cR_smallestAround : ByteArray := prog_2_method_7_code
abbrev yM_init : MethodName := ⟨RM, "<init>", "()V"⟩
abbrev cM_init : ByteArray := prog_5_method_1_code
abbrev yM_thrown : MethodName := ⟨RM, "thrown", "()I"⟩
abbrev cM_thrown : ByteArray := prog_5_method_2_code
abbrev yM_block : MethodName := ⟨RM, "block", "(I)Z"⟩
abbrev cM_block : ByteArray := prog_5_method_7_code
abbrev yM_isBlock : MethodName := ⟨RM, "isBlock", "(I)Z"⟩
abbrev cM_isBlock : ByteArray := prog_5_method_3_code
abbrev yM_is : MethodName := ⟨RM, "is", "(JI)Z"⟩
abbrev cM_is : ByteArray := prog_5_method_4_code
abbrev yM_bit : MethodName := ⟨RM, "bit", "(I)J"⟩
abbrev cM_bit : ByteArray := prog_5_method_5_code
abbrev yM_target : MethodName := ⟨RM, "target", "(II)Z"⟩
abbrev cM_target : ByteArray := prog_5_method_8_code
abbrev yM_drop : MethodName := ⟨RM, "drop", "(I)Z"⟩
abbrev cM_drop : ByteArray := prog_5_method_9_code
abbrev yM_count : MethodName := ⟨RM, "count", "(I)I"⟩
abbrev cM_count : ByteArray := prog_5_method_16_code
abbrev yM_look : MethodName := ⟨RM, "look", "()V"⟩
abbrev cM_look : ByteArray := prog_5_method_12_code
abbrev yM_comeTo : MethodName := ⟨RM, "comeTo", "(I)J"⟩
abbrev cM_comeTo : ByteArray := prog_5_method_10_code
abbrev yM_leadTo : MethodName := ⟨RM, "leadTo", "(JI)J"⟩
abbrev cM_leadTo : ByteArray := prog_5_method_11_code
abbrev yM_lookAtRounds : MethodName := ⟨RM, "lookAtRounds", "()V"⟩
abbrev cM_lookAtRounds : ByteArray := prog_5_method_13_code
abbrev yM_lookAtEdges : MethodName := ⟨RM, "lookAtEdges", "()V"⟩
abbrev cM_lookAtEdges : ByteArray := prog_5_method_14_code
abbrev yM_sizeOf : MethodName := ⟨RM, "sizeOf", "(J)I"⟩
abbrev cM_sizeOf : ByteArray := prog_5_method_6_code
abbrev yM_in : MethodName := ⟨RM, "in", "(I)I"⟩
abbrev cM_in : ByteArray := prog_5_method_17_code
abbrev yM_lid : MethodName := ⟨RM, "lid", "(I)I"⟩
abbrev cM_lid : ByteArray := prog_5_method_18_code
abbrev yM_nearest : MethodName := ⟨RM, "nearest", "([JI)I"⟩
abbrev cM_nearest : ByteArray := prog_5_method_15_code
abbrev yM_meeting : MethodName := ⟨RM, "meeting", "(I)I"⟩
abbrev cM_meeting : ByteArray := prog_5_method_19_code
abbrev yM_set : MethodName := ⟨RM, "set", "(II)J"⟩
abbrev cM_set : ByteArray := prog_5_method_22_code
abbrev yM_hangsOn : MethodName := ⟨RM, "hangsOn", "(I)J"⟩
abbrev cM_hangsOn : ByteArray := prog_5_method_21_code
abbrev yM_under : MethodName := ⟨RM, "under", "(I)J"⟩
abbrev cM_under : ByteArray := prog_5_method_20_code
abbrev yM_depth : MethodName := ⟨RM, "depth", "(I)I"⟩
abbrev cM_depth : ByteArray := prog_5_method_23_code
abbrev yM_inner : MethodName := ⟨RM, "inner", "(I)I"⟩
abbrev cM_inner : ByteArray := prog_5_method_24_code
abbrev yM_joins : MethodName := ⟨RM, "joins", "(J)J"⟩
abbrev cM_joins : ByteArray := prog_5_method_25_code
abbrev yL_law : MethodName := ⟨RL, "law", "([I)Z"⟩
abbrev cL_law : ByteArray := code
/-- all the good words -/
def bwB : List Cond := lw_tbl.filter goodWord
theorem bw_in {w : Cond} (i : Nat) (h : lw_tbl[i]? = some w) (hg : goodWord w = true) : w ∈ bwB := List.mem_filter.mpr ⟨List.mem_of_getElem? h, hg⟩
theorem bw_gi {ws : List Cond} (h : ∀ w ∈ ws, w ∈ bwB) : GoodIn bwB ws := fun w hw => ⟨h w hw, good_of_word (List.mem_filter.mp (h w hw)).2⟩
theorem bw_gt_ {w : Cond} {ws : List Cond} (h1 : w ∈ bwB) (h : ∀ w ∈ ws, w ∈ bwB) : ∀ x ∈ w :: ws, x ∈ bwB := fun x hx => (List.mem_cons.mp hx).elim (fun e => by rw [e]; exact h1) (h x)
theorem bw_gn {P : Cond → Prop} : ∀ x ∈ ([] : List Cond), P x := fun _ h => nomatch h
theorem bw_gb : ∀ x ∈ bwB, x ∈ bwB := fun _ h => h
theorem hw_17 : (Jvm.Cond.initialized "BlockWaysLaw") ∈ bwB := bw_in 17 (by rfl) (by rfl)
theorem hw_18 : (Jvm.Cond.initialized "BlockWays") ∈ bwB := bw_in 18 (by rfl) (by rfl)
theorem hw_19 : (Jvm.Cond.initialized "BlockWays$Spread") ∈ bwB := bw_in 19 (by rfl) (by rfl)
theorem hw_20 : (Jvm.Cond.initialized "BlockWays$Rounds") ∈ bwB := bw_in 20 (by rfl) (by rfl)
theorem hw_21 : (Jvm.Cond.initialized "BlockWaysModel") ∈ bwB := bw_in 21 (by rfl) (by rfl)
theorem hw_22 : (Jvm.Cond.initialized "java/lang/Long") ∈ bwB := bw_in 22 (by rfl) (by rfl)
theorem hw_23 : (Jvm.Cond.initialized "java/lang/Math") ∈ bwB := bw_in 23 (by rfl) (by rfl)
theorem hw_24 : (Jvm.Cond.initialized "java/lang/Throwable") ∈ bwB := bw_in 24 (by rfl) (by rfl)
theorem hw_25 : (Jvm.Cond.initialized "java/lang/Exception") ∈ bwB := bw_in 25 (by rfl) (by rfl)
theorem hw_26 : (Jvm.Cond.initialized "java/lang/RuntimeException") ∈ bwB := bw_in 26 (by rfl) (by rfl)
theorem hw_27 : (Jvm.Cond.initialized "java/util/NoSuchElementException") ∈ bwB := bw_in 27 (by rfl) (by rfl)
theorem hw_28 : (Jvm.Cond.classLink "BlockWaysLaw" (8 : Nat) "BlockWays") ∈ bwB := bw_in 28 (by rfl) (by rfl)
theorem hw_29 : (Jvm.Cond.instantiable "BlockWays" (7 : Nat)) ∈ bwB := bw_in 29 (by rfl) (by rfl)
theorem hw_30 : (Jvm.Cond.methodLink "BlockWaysLaw" (15 : Nat) ({ cls := "BlockWays", name := "<init>", desc := "()V" } : Jvm.MethodName)) ∈ bwB := bw_in 30 (by rfl) (by rfl)
theorem hw_31 : (Jvm.Cond.instanceMethod ({ cls := "BlockWays", name := "<init>", desc := "()V" } : Jvm.MethodName)) ∈ bwB := bw_in 31 (by rfl) (by rfl)
theorem hw_32 : (Jvm.Cond.code ({ cls := "BlockWays", name := "<init>", desc := "()V" } : Jvm.MethodName) prog_1_method_1_code (1 : Nat) (Option.none : Option Jvm.ClassFile.FieldType)) ∈ bwB := bw_in 32 (by rfl) (by rfl)
theorem hw_33 : (Jvm.Cond.methodLink "BlockWays" (1 : Nat) ({ cls := "java/lang/Object", name := "<init>", desc := "()V" } : Jvm.MethodName)) ∈ bwB := bw_in 33 (by rfl) (by rfl)
theorem hw_34 : (Jvm.Cond.instanceMethod ({ cls := "java/lang/Object", name := "<init>", desc := "()V" } : Jvm.MethodName)) ∈ bwB := bw_in 34 (by rfl) (by rfl)
theorem hw_35 : (Jvm.Cond.code ({ cls := "java/lang/Object", name := "<init>", desc := "()V" } : Jvm.MethodName) object_method_1_code (1 : Nat) (Option.none : Option Jvm.ClassFile.FieldType)) ∈ bwB := bw_in 35 (by rfl) (by rfl)
theorem hw_36 : (Jvm.Cond.classLink "BlockWays" (17 : Nat) "BlockWays$Spread") ∈ bwB := bw_in 36 (by rfl) (by rfl)
theorem hw_37 : (Jvm.Cond.instantiable "BlockWays$Spread" (3 : Nat)) ∈ bwB := bw_in 37 (by rfl) (by rfl)
theorem hw_38 : (Jvm.Cond.methodLink "BlockWays" (19 : Nat) ({ cls := "BlockWays$Spread", name := "<init>", desc := "()V" } : Jvm.MethodName)) ∈ bwB := bw_in 38 (by rfl) (by rfl)
theorem hw_39 : (Jvm.Cond.instanceMethod ({ cls := "BlockWays$Spread", name := "<init>", desc := "()V" } : Jvm.MethodName)) ∈ bwB := bw_in 39 (by rfl) (by rfl)
theorem hw_40 : (Jvm.Cond.code ({ cls := "BlockWays$Spread", name := "<init>", desc := "()V" } : Jvm.MethodName) prog_3_method_1_code (1 : Nat) (Option.none : Option Jvm.ClassFile.FieldType)) ∈ bwB := bw_in 40 (by rfl) (by rfl)
theorem hw_41 : (Jvm.Cond.methodLink "BlockWays$Spread" (3 : Nat) ({ cls := "java/lang/Object", name := "<init>", desc := "()V" } : Jvm.MethodName)) ∈ bwB := bw_in 41 (by rfl) (by rfl)
theorem hw_42 : (Jvm.Cond.fieldLink "BlockWays$Spread" (9 : Nat) "BlockWays$Spread" "steps" "[J") ∈ bwB := bw_in 42 (by rfl) (by rfl)
theorem hw_43 : (Jvm.Cond.fieldLink "BlockWays$Spread" (15 : Nat) "BlockWays$Spread" "gated" "[J") ∈ bwB := bw_in 43 (by rfl) (by rfl)
theorem hw_44 : (Jvm.Cond.fieldLink "BlockWays$Spread" (18 : Nat) "BlockWays$Spread" "covered" "J") ∈ bwB := bw_in 44 (by rfl) (by rfl)
theorem hw_45 : (Jvm.Cond.laysFinal "BlockWays$Spread" "BlockWays$Spread" "steps" "[J") ∈ bwB := bw_in 45 (by rfl) (by rfl)
theorem hw_47 : (Jvm.Cond.laysFinal "BlockWays$Spread" "BlockWays$Spread" "gated" "[J") ∈ bwB := bw_in 47 (by rfl) (by rfl)
theorem hw_49 : (Jvm.Cond.lays "BlockWays$Spread" "BlockWays$Spread" "covered" "J") ∈ bwB := bw_in 49 (by rfl) (by rfl)
theorem hw_52 : (Jvm.Cond.arrayClass Jvm.ClassFile.FieldType.int) ∈ bwB := bw_in 52 (by rfl) (by rfl)
theorem hw_53 : (Jvm.Cond.arrayClass Jvm.ClassFile.FieldType.long) ∈ bwB := bw_in 53 (by rfl) (by rfl)
theorem hw_54 : (Jvm.Cond.classLink "BlockWays" (27 : Nat) "BlockWays$Rounds") ∈ bwB := bw_in 54 (by rfl) (by rfl)
theorem hw_55 : (Jvm.Cond.instantiable "BlockWays$Rounds" (1 : Nat)) ∈ bwB := bw_in 55 (by rfl) (by rfl)
theorem hw_56 : (Jvm.Cond.methodLink "BlockWays" (29 : Nat) ({ cls := "BlockWays$Rounds", name := "<init>", desc := "()V" } : Jvm.MethodName)) ∈ bwB := bw_in 56 (by rfl) (by rfl)
theorem hw_57 : (Jvm.Cond.instanceMethod ({ cls := "BlockWays$Rounds", name := "<init>", desc := "()V" } : Jvm.MethodName)) ∈ bwB := bw_in 57 (by rfl) (by rfl)
theorem hw_58 : (Jvm.Cond.code ({ cls := "BlockWays$Rounds", name := "<init>", desc := "()V" } : Jvm.MethodName) prog_2_method_1_code (1 : Nat) (Option.none : Option Jvm.ClassFile.FieldType)) ∈ bwB := bw_in 58 (by rfl) (by rfl)
theorem hw_59 : (Jvm.Cond.methodLink "BlockWays$Rounds" (3 : Nat) ({ cls := "java/lang/Object", name := "<init>", desc := "()V" } : Jvm.MethodName)) ∈ bwB := bw_in 59 (by rfl) (by rfl)
theorem hw_60 : (Jvm.Cond.fieldLink "BlockWays$Rounds" (9 : Nat) "BlockWays$Rounds" "blocks" "[J") ∈ bwB := bw_in 60 (by rfl) (by rfl)
theorem hw_61 : (Jvm.Cond.laysFinal "BlockWays$Rounds" "BlockWays$Rounds" "blocks" "[J") ∈ bwB := bw_in 61 (by rfl) (by rfl)
theorem hw_64 : (Jvm.Cond.fieldLink "BlockWays" (7 : Nat) "BlockWays" "told" "J") ∈ bwB := bw_in 64 (by rfl) (by rfl)
theorem hw_65 : (Jvm.Cond.fieldLink "BlockWays" (13 : Nat) "BlockWays" "targetCounts" "[I") ∈ bwB := bw_in 65 (by rfl) (by rfl)
theorem hw_66 : (Jvm.Cond.fieldLink "BlockWays" (20 : Nat) "BlockWays" "onward" "LBlockWays$Spread;") ∈ bwB := bw_in 66 (by rfl) (by rfl)
theorem hw_67 : (Jvm.Cond.fieldLink "BlockWays" (24 : Nat) "BlockWays" "backward" "LBlockWays$Spread;") ∈ bwB := bw_in 67 (by rfl) (by rfl)
theorem hw_68 : (Jvm.Cond.fieldLink "BlockWays" (30 : Nat) "BlockWays" "rounds" "LBlockWays$Rounds;") ∈ bwB := bw_in 68 (by rfl) (by rfl)
theorem hw_69 : (Jvm.Cond.fieldLink "BlockWays" (34 : Nat) "BlockWays" "onwardStale" "Z") ∈ bwB := bw_in 69 (by rfl) (by rfl)
theorem hw_70 : (Jvm.Cond.fieldLink "BlockWays" (38 : Nat) "BlockWays" "backwardStale" "Z") ∈ bwB := bw_in 70 (by rfl) (by rfl)
theorem hw_71 : (Jvm.Cond.lays "BlockWays" "BlockWays" "told" "J") ∈ bwB := bw_in 71 (by rfl) (by rfl)
theorem hw_73 : (Jvm.Cond.laysFinal "BlockWays" "BlockWays" "targetCounts" "[I") ∈ bwB := bw_in 73 (by rfl) (by rfl)
theorem hw_75 : (Jvm.Cond.laysFinal "BlockWays" "BlockWays" "onward" "LBlockWays$Spread;") ∈ bwB := bw_in 75 (by rfl) (by rfl)
theorem hw_77 : (Jvm.Cond.laysFinal "BlockWays" "BlockWays" "backward" "LBlockWays$Spread;") ∈ bwB := bw_in 77 (by rfl) (by rfl)
theorem hw_79 : (Jvm.Cond.laysFinal "BlockWays" "BlockWays" "rounds" "LBlockWays$Rounds;") ∈ bwB := bw_in 79 (by rfl) (by rfl)
theorem hw_81 : (Jvm.Cond.lays "BlockWays" "BlockWays" "onwardStale" "Z") ∈ bwB := bw_in 81 (by rfl) (by rfl)
theorem hw_83 : (Jvm.Cond.lays "BlockWays" "BlockWays" "backwardStale" "Z") ∈ bwB := bw_in 83 (by rfl) (by rfl)
theorem hw_86 : (Jvm.Cond.methodLink "BlockWaysLaw" (19 : Nat) ({ cls := "BlockWays", name := "block", desc := "(I)Z" } : Jvm.MethodName)) ∈ bwB := bw_in 86 (by rfl) (by rfl)
theorem hw_87 : (Jvm.Cond.instanceMethod ({ cls := "BlockWays", name := "block", desc := "(I)Z" } : Jvm.MethodName)) ∈ bwB := bw_in 87 (by rfl) (by rfl)
theorem hw_88 : (Jvm.Cond.selects "BlockWays" ({ cls := "BlockWays", name := "block", desc := "(I)Z" } : Jvm.MethodName) ({ cls := "BlockWays", name := "block", desc := "(I)Z" } : Jvm.MethodName)) ∈ bwB := bw_in 88 (by rfl) (by rfl)
theorem hw_89 : (Jvm.Cond.code ({ cls := "BlockWays", name := "block", desc := "(I)Z" } : Jvm.MethodName) prog_1_method_2_code (2 : Nat) (Option.some Jvm.ClassFile.FieldType.boolean)) ∈ bwB := bw_in 89 (by rfl) (by rfl)
theorem hw_90 : (Jvm.Cond.methodLink "BlockWays" (41 : Nat) ({ cls := "BlockWays", name := "isBlock", desc := "(I)Z" } : Jvm.MethodName)) ∈ bwB := bw_in 90 (by rfl) (by rfl)
theorem hw_91 : (Jvm.Cond.static ({ cls := "BlockWays", name := "isBlock", desc := "(I)Z" } : Jvm.MethodName)) ∈ bwB := bw_in 91 (by rfl) (by rfl)
theorem hw_92 : (Jvm.Cond.code ({ cls := "BlockWays", name := "isBlock", desc := "(I)Z" } : Jvm.MethodName) prog_1_method_12_code (1 : Nat) (Option.some Jvm.ClassFile.FieldType.boolean)) ∈ bwB := bw_in 92 (by rfl) (by rfl)
theorem hw_93 : (Jvm.Cond.methodLink "BlockWays" (45 : Nat) ({ cls := "BlockWays", name := "has", desc := "(JI)Z" } : Jvm.MethodName)) ∈ bwB := bw_in 93 (by rfl) (by rfl)
theorem hw_94 : (Jvm.Cond.static ({ cls := "BlockWays", name := "has", desc := "(JI)Z" } : Jvm.MethodName)) ∈ bwB := bw_in 94 (by rfl) (by rfl)
theorem hw_95 : (Jvm.Cond.code ({ cls := "BlockWays", name := "has", desc := "(JI)Z" } : Jvm.MethodName) prog_1_method_15_code (3 : Nat) (Option.some Jvm.ClassFile.FieldType.boolean)) ∈ bwB := bw_in 95 (by rfl) (by rfl)
theorem hw_96 : (Jvm.Cond.methodLink "BlockWays" (49 : Nat) ({ cls := "BlockWays", name := "bit", desc := "(I)J" } : Jvm.MethodName)) ∈ bwB := bw_in 96 (by rfl) (by rfl)
theorem hw_97 : (Jvm.Cond.static ({ cls := "BlockWays", name := "bit", desc := "(I)J" } : Jvm.MethodName)) ∈ bwB := bw_in 97 (by rfl) (by rfl)
theorem hw_98 : (Jvm.Cond.code ({ cls := "BlockWays", name := "bit", desc := "(I)J" } : Jvm.MethodName) prog_1_method_14_code (1 : Nat) (Option.some Jvm.ClassFile.FieldType.long)) ∈ bwB := bw_in 98 (by rfl) (by rfl)
theorem hw_99 : (Jvm.Cond.methodLink "BlockWays" (53 : Nat) ({ cls := "BlockWays", name := "forgetAnswers", desc := "()V" } : Jvm.MethodName)) ∈ bwB := bw_in 99 (by rfl) (by rfl)
theorem hw_101 : (Jvm.Cond.instanceMethod ({ cls := "BlockWays", name := "forgetAnswers", desc := "()V" } : Jvm.MethodName)) ∈ bwB := bw_in 101 (by rfl) (by rfl)
theorem hw_102 : (Jvm.Cond.code ({ cls := "BlockWays", name := "forgetAnswers", desc := "()V" } : Jvm.MethodName) prog_1_method_17_code (1 : Nat) (Option.none : Option Jvm.ClassFile.FieldType)) ∈ bwB := bw_in 102 (by rfl) (by rfl)
theorem hw_103 : (Jvm.Cond.methodLink "BlockWaysLaw" (24 : Nat) ({ cls := "BlockWays", name := "target", desc := "(II)Z" } : Jvm.MethodName)) ∈ bwB := bw_in 103 (by rfl) (by rfl)
theorem hw_104 : (Jvm.Cond.instanceMethod ({ cls := "BlockWays", name := "target", desc := "(II)Z" } : Jvm.MethodName)) ∈ bwB := bw_in 104 (by rfl) (by rfl)
theorem hw_105 : (Jvm.Cond.selects "BlockWays" ({ cls := "BlockWays", name := "target", desc := "(II)Z" } : Jvm.MethodName) ({ cls := "BlockWays", name := "target", desc := "(II)Z" } : Jvm.MethodName)) ∈ bwB := bw_in 105 (by rfl) (by rfl)
theorem hw_106 : (Jvm.Cond.code ({ cls := "BlockWays", name := "target", desc := "(II)Z" } : Jvm.MethodName) prog_1_method_3_code (3 : Nat) (Option.some Jvm.ClassFile.FieldType.boolean)) ∈ bwB := bw_in 106 (by rfl) (by rfl)
theorem hw_107 : (Jvm.Cond.methodLink "BlockWays" (56 : Nat) ({ cls := "BlockWays", name := "isTold", desc := "(I)Z" } : Jvm.MethodName)) ∈ bwB := bw_in 107 (by rfl) (by rfl)
theorem hw_109 : (Jvm.Cond.instanceMethod ({ cls := "BlockWays", name := "isTold", desc := "(I)Z" } : Jvm.MethodName)) ∈ bwB := bw_in 109 (by rfl) (by rfl)
theorem hw_110 : (Jvm.Cond.code ({ cls := "BlockWays", name := "isTold", desc := "(I)Z" } : Jvm.MethodName) prog_1_method_13_code (2 : Nat) (Option.some Jvm.ClassFile.FieldType.boolean)) ∈ bwB := bw_in 110 (by rfl) (by rfl)
theorem hw_111 : (Jvm.Cond.methodLink "BlockWays" (59 : Nat) ({ cls := "BlockWays$Spread", name := "addStep", desc := "(II)V" } : Jvm.MethodName)) ∈ bwB := bw_in 111 (by rfl) (by rfl)
theorem hw_112 : (Jvm.Cond.instanceMethod ({ cls := "BlockWays$Spread", name := "addStep", desc := "(II)V" } : Jvm.MethodName)) ∈ bwB := bw_in 112 (by rfl) (by rfl)
theorem hw_113 : (Jvm.Cond.selects "BlockWays$Spread" ({ cls := "BlockWays$Spread", name := "addStep", desc := "(II)V" } : Jvm.MethodName) ({ cls := "BlockWays$Spread", name := "addStep", desc := "(II)V" } : Jvm.MethodName)) ∈ bwB := bw_in 113 (by rfl) (by rfl)
theorem hw_114 : (Jvm.Cond.code ({ cls := "BlockWays$Spread", name := "addStep", desc := "(II)V" } : Jvm.MethodName) prog_3_method_2_code (3 : Nat) (Option.none : Option Jvm.ClassFile.FieldType)) ∈ bwB := bw_in 114 (by rfl) (by rfl)
theorem hw_116 : (Jvm.Cond.methodLink "BlockWaysLaw" (29 : Nat) ({ cls := "BlockWays", name := "drop", desc := "(I)Z" } : Jvm.MethodName)) ∈ bwB := bw_in 116 (by rfl) (by rfl)
theorem hw_117 : (Jvm.Cond.instanceMethod ({ cls := "BlockWays", name := "drop", desc := "(I)Z" } : Jvm.MethodName)) ∈ bwB := bw_in 117 (by rfl) (by rfl)
theorem hw_118 : (Jvm.Cond.selects "BlockWays" ({ cls := "BlockWays", name := "drop", desc := "(I)Z" } : Jvm.MethodName) ({ cls := "BlockWays", name := "drop", desc := "(I)Z" } : Jvm.MethodName)) ∈ bwB := bw_in 118 (by rfl) (by rfl)
theorem hw_119 : (Jvm.Cond.code ({ cls := "BlockWays", name := "drop", desc := "(I)Z" } : Jvm.MethodName) prog_1_method_4_code (2 : Nat) (Option.some Jvm.ClassFile.FieldType.boolean)) ∈ bwB := bw_in 119 (by rfl) (by rfl)
theorem hw_120 : (Jvm.Cond.constantLong "BlockWays" (63 : Nat) (-1 : Int64)) ∈ bwB := bw_in 120 (by rfl) (by rfl)
theorem hw_121 : (Jvm.Cond.methodLink "BlockWays" (65 : Nat) ({ cls := "BlockWays$Spread", name := "removeStepsFrom", desc := "(I)V" } : Jvm.MethodName)) ∈ bwB := bw_in 121 (by rfl) (by rfl)
theorem hw_122 : (Jvm.Cond.instanceMethod ({ cls := "BlockWays$Spread", name := "removeStepsFrom", desc := "(I)V" } : Jvm.MethodName)) ∈ bwB := bw_in 122 (by rfl) (by rfl)
theorem hw_123 : (Jvm.Cond.selects "BlockWays$Spread" ({ cls := "BlockWays$Spread", name := "removeStepsFrom", desc := "(I)V" } : Jvm.MethodName) ({ cls := "BlockWays$Spread", name := "removeStepsFrom", desc := "(I)V" } : Jvm.MethodName)) ∈ bwB := bw_in 123 (by rfl) (by rfl)
theorem hw_124 : (Jvm.Cond.code ({ cls := "BlockWays$Spread", name := "removeStepsFrom", desc := "(I)V" } : Jvm.MethodName) prog_3_method_3_code (2 : Nat) (Option.none : Option Jvm.ClassFile.FieldType)) ∈ bwB := bw_in 124 (by rfl) (by rfl)
theorem hw_125 : (Jvm.Cond.methodLink "BlockWays" (69 : Nat) ({ cls := "BlockWays$Spread", name := "removeStepsTo", desc := "(I)V" } : Jvm.MethodName)) ∈ bwB := bw_in 125 (by rfl) (by rfl)
theorem hw_126 : (Jvm.Cond.instanceMethod ({ cls := "BlockWays$Spread", name := "removeStepsTo", desc := "(I)V" } : Jvm.MethodName)) ∈ bwB := bw_in 126 (by rfl) (by rfl)
theorem hw_127 : (Jvm.Cond.selects "BlockWays$Spread" ({ cls := "BlockWays$Spread", name := "removeStepsTo", desc := "(I)V" } : Jvm.MethodName) ({ cls := "BlockWays$Spread", name := "removeStepsTo", desc := "(I)V" } : Jvm.MethodName)) ∈ bwB := bw_in 127 (by rfl) (by rfl)
theorem hw_128 : (Jvm.Cond.code ({ cls := "BlockWays$Spread", name := "removeStepsTo", desc := "(I)V" } : Jvm.MethodName) prog_3_method_4_code (3 : Nat) (Option.none : Option Jvm.ClassFile.FieldType)) ∈ bwB := bw_in 128 (by rfl) (by rfl)
theorem hw_129 : (Jvm.Cond.constantLong "BlockWays$Spread" (26 : Nat) (-1 : Int64)) ∈ bwB := bw_in 129 (by rfl) (by rfl)
theorem hw_130 : (Jvm.Cond.methodLink "BlockWaysLaw" (33 : Nat) ({ cls := "BlockWays", name := "count", desc := "(I)I" } : Jvm.MethodName)) ∈ bwB := bw_in 130 (by rfl) (by rfl)
theorem hw_131 : (Jvm.Cond.instanceMethod ({ cls := "BlockWays", name := "count", desc := "(I)I" } : Jvm.MethodName)) ∈ bwB := bw_in 131 (by rfl) (by rfl)
theorem hw_132 : (Jvm.Cond.selects "BlockWays" ({ cls := "BlockWays", name := "count", desc := "(I)I" } : Jvm.MethodName) ({ cls := "BlockWays", name := "count", desc := "(I)I" } : Jvm.MethodName)) ∈ bwB := bw_in 132 (by rfl) (by rfl)
theorem hw_133 : (Jvm.Cond.code ({ cls := "BlockWays", name := "count", desc := "(I)I" } : Jvm.MethodName) prog_1_method_5_code (2 : Nat) (Option.some Jvm.ClassFile.FieldType.int)) ∈ bwB := bw_in 133 (by rfl) (by rfl)
theorem hw_134 : (Jvm.Cond.methodLink "BlockWays" (72 : Nat) ({ cls := "java/lang/Long", name := "bitCount", desc := "(J)I" } : Jvm.MethodName)) ∈ bwB := bw_in 134 (by rfl) (by rfl)
theorem hw_135 : (Jvm.Cond.static ({ cls := "java/lang/Long", name := "bitCount", desc := "(J)I" } : Jvm.MethodName)) ∈ bwB := bw_in 135 (by rfl) (by rfl)
theorem hw_136 : (Jvm.Cond.code ({ cls := "java/lang/Long", name := "bitCount", desc := "(J)I" } : Jvm.MethodName) prog_7_method_50_code (2 : Nat) (Option.some Jvm.ClassFile.FieldType.int)) ∈ bwB := bw_in 136 (by rfl) (by rfl)
theorem hw_137 : (Jvm.Cond.constantLong "java/lang/Long" (314 : Nat) (6148914691236517205 : Int64)) ∈ bwB := bw_in 137 (by rfl) (by rfl)
theorem hw_138 : (Jvm.Cond.constantLong "java/lang/Long" (316 : Nat) (3689348814741910323 : Int64)) ∈ bwB := bw_in 138 (by rfl) (by rfl)
theorem hw_139 : (Jvm.Cond.constantLong "java/lang/Long" (318 : Nat) (1085102592571150095 : Int64)) ∈ bwB := bw_in 139 (by rfl) (by rfl)
theorem hw_140 : (Jvm.Cond.methodLink "BlockWays" (78 : Nat) ({ cls := "BlockWays", name := "freshOnward", desc := "()LBlockWays$Spread;" } : Jvm.MethodName)) ∈ bwB := bw_in 140 (by rfl) (by rfl)
theorem hw_142 : (Jvm.Cond.instanceMethod ({ cls := "BlockWays", name := "freshOnward", desc := "()LBlockWays$Spread;" } : Jvm.MethodName)) ∈ bwB := bw_in 142 (by rfl) (by rfl)
theorem hw_143 : (Jvm.Cond.code ({ cls := "BlockWays", name := "freshOnward", desc := "()LBlockWays$Spread;" } : Jvm.MethodName) prog_1_method_18_code (1 : Nat) (Option.some (Jvm.ClassFile.FieldType.object "BlockWays$Spread"))) ∈ bwB := bw_in 143 (by rfl) (by rfl)
theorem hw_144 : (Jvm.Cond.methodLink "BlockWays" (136 : Nat) ({ cls := "BlockWays", name := "renewOnward", desc := "()V" } : Jvm.MethodName)) ∈ bwB := bw_in 144 (by rfl) (by rfl)
theorem hw_146 : (Jvm.Cond.instanceMethod ({ cls := "BlockWays", name := "renewOnward", desc := "()V" } : Jvm.MethodName)) ∈ bwB := bw_in 146 (by rfl) (by rfl)
theorem hw_147 : (Jvm.Cond.code ({ cls := "BlockWays", name := "renewOnward", desc := "()V" } : Jvm.MethodName) prog_1_method_20_code (1 : Nat) (Option.none : Option Jvm.ClassFile.FieldType)) ∈ bwB := bw_in 147 (by rfl) (by rfl)
theorem hw_148 : (Jvm.Cond.methodLink "BlockWays" (139 : Nat) ({ cls := "BlockWays$Spread", name := "renew", desc := "(JJ)V" } : Jvm.MethodName)) ∈ bwB := bw_in 148 (by rfl) (by rfl)
theorem hw_149 : (Jvm.Cond.instanceMethod ({ cls := "BlockWays$Spread", name := "renew", desc := "(JJ)V" } : Jvm.MethodName)) ∈ bwB := bw_in 149 (by rfl) (by rfl)
theorem hw_150 : (Jvm.Cond.selects "BlockWays$Spread" ({ cls := "BlockWays$Spread", name := "renew", desc := "(JJ)V" } : Jvm.MethodName) ({ cls := "BlockWays$Spread", name := "renew", desc := "(JJ)V" } : Jvm.MethodName)) ∈ bwB := bw_in 150 (by rfl) (by rfl)
theorem hw_151 : (Jvm.Cond.code ({ cls := "BlockWays$Spread", name := "renew", desc := "(JJ)V" } : Jvm.MethodName) prog_3_method_5_code (6 : Nat) (Option.none : Option Jvm.ClassFile.FieldType)) ∈ bwB := bw_in 151 (by rfl) (by rfl)
theorem hw_152 : (Jvm.Cond.methodLink "BlockWays$Spread" (28 : Nat) ({ cls := "BlockWays$Spread", name := "flood", desc := "(JJ)J" } : Jvm.MethodName)) ∈ bwB := bw_in 152 (by rfl) (by rfl)
theorem hw_153 : (Jvm.Cond.instanceMethod ({ cls := "BlockWays$Spread", name := "flood", desc := "(JJ)J" } : Jvm.MethodName)) ∈ bwB := bw_in 153 (by rfl) (by rfl)
theorem hw_154 : (Jvm.Cond.selects "BlockWays$Spread" ({ cls := "BlockWays$Spread", name := "flood", desc := "(JJ)J" } : Jvm.MethodName) ({ cls := "BlockWays$Spread", name := "flood", desc := "(JJ)J" } : Jvm.MethodName)) ∈ bwB := bw_in 154 (by rfl) (by rfl)
theorem hw_155 : (Jvm.Cond.code ({ cls := "BlockWays$Spread", name := "flood", desc := "(JJ)J" } : Jvm.MethodName) prog_3_method_6_code (13 : Nat) (Option.some Jvm.ClassFile.FieldType.long)) ∈ bwB := bw_in 155 (by rfl) (by rfl)
theorem hw_157 : (Jvm.Cond.static ({ cls := "BlockWays", name := "lowest", desc := "(J)I" } : Jvm.MethodName)) ∈ bwB := bw_in 157 (by rfl) (by rfl)
theorem hw_158 : (Jvm.Cond.code ({ cls := "BlockWays", name := "lowest", desc := "(J)I" } : Jvm.MethodName) prog_1_method_16_code (2 : Nat) (Option.some Jvm.ClassFile.FieldType.int)) ∈ bwB := bw_in 158 (by rfl) (by rfl)
theorem hw_160 : (Jvm.Cond.methodLink "BlockWays" (143 : Nat) ({ cls := "BlockWays$Rounds", name := "renew", desc := "(LBlockWays$Spread;LBlockWays$Spread;)V" } : Jvm.MethodName)) ∈ bwB := bw_in 160 (by rfl) (by rfl)
theorem hw_161 : (Jvm.Cond.instanceMethod ({ cls := "BlockWays$Rounds", name := "renew", desc := "(LBlockWays$Spread;LBlockWays$Spread;)V" } : Jvm.MethodName)) ∈ bwB := bw_in 161 (by rfl) (by rfl)
theorem hw_162 : (Jvm.Cond.selects "BlockWays$Rounds" ({ cls := "BlockWays$Rounds", name := "renew", desc := "(LBlockWays$Spread;LBlockWays$Spread;)V" } : Jvm.MethodName) ({ cls := "BlockWays$Rounds", name := "renew", desc := "(LBlockWays$Spread;LBlockWays$Spread;)V" } : Jvm.MethodName)) ∈ bwB := bw_in 162 (by rfl) (by rfl)
theorem hw_163 : (Jvm.Cond.code ({ cls := "BlockWays$Rounds", name := "renew", desc := "(LBlockWays$Spread;LBlockWays$Spread;)V" } : Jvm.MethodName) prog_2_method_2_code (8 : Nat) (Option.none : Option Jvm.ClassFile.FieldType)) ∈ bwB := bw_in 163 (by rfl) (by rfl)
theorem hw_164 : (Jvm.Cond.methodLink "BlockWays$Rounds" (15 : Nat) ({ cls := "BlockWays$Spread", name := "stepsOf", desc := "(I)J" } : Jvm.MethodName)) ∈ bwB := bw_in 164 (by rfl) (by rfl)
theorem hw_165 : (Jvm.Cond.instanceMethod ({ cls := "BlockWays$Spread", name := "stepsOf", desc := "(I)J" } : Jvm.MethodName)) ∈ bwB := bw_in 165 (by rfl) (by rfl)
theorem hw_166 : (Jvm.Cond.selects "BlockWays$Spread" ({ cls := "BlockWays$Spread", name := "stepsOf", desc := "(I)J" } : Jvm.MethodName) ({ cls := "BlockWays$Spread", name := "stepsOf", desc := "(I)J" } : Jvm.MethodName)) ∈ bwB := bw_in 166 (by rfl) (by rfl)
theorem hw_167 : (Jvm.Cond.code ({ cls := "BlockWays$Spread", name := "stepsOf", desc := "(I)J" } : Jvm.MethodName) prog_3_method_8_code (2 : Nat) (Option.some Jvm.ClassFile.FieldType.long)) ∈ bwB := bw_in 167 (by rfl) (by rfl)
theorem hw_168 : (Jvm.Cond.methodLink "BlockWays$Rounds" (21 : Nat) ({ cls := "BlockWays$Spread", name := "gated", desc := "(I)J" } : Jvm.MethodName)) ∈ bwB := bw_in 168 (by rfl) (by rfl)
theorem hw_169 : (Jvm.Cond.instanceMethod ({ cls := "BlockWays$Spread", name := "gated", desc := "(I)J" } : Jvm.MethodName)) ∈ bwB := bw_in 169 (by rfl) (by rfl)
theorem hw_170 : (Jvm.Cond.selects "BlockWays$Spread" ({ cls := "BlockWays$Spread", name := "gated", desc := "(I)J" } : Jvm.MethodName) ({ cls := "BlockWays$Spread", name := "gated", desc := "(I)J" } : Jvm.MethodName)) ∈ bwB := bw_in 170 (by rfl) (by rfl)
theorem hw_171 : (Jvm.Cond.code ({ cls := "BlockWays$Spread", name := "gated", desc := "(I)J" } : Jvm.MethodName) prog_3_method_9_code (2 : Nat) (Option.some Jvm.ClassFile.FieldType.long)) ∈ bwB := bw_in 171 (by rfl) (by rfl)
theorem hw_172 : (Jvm.Cond.methodLink "BlockWays$Rounds" (24 : Nat) ({ cls := "BlockWays$Spread", name := "covered", desc := "()J" } : Jvm.MethodName)) ∈ bwB := bw_in 172 (by rfl) (by rfl)
theorem hw_173 : (Jvm.Cond.instanceMethod ({ cls := "BlockWays$Spread", name := "covered", desc := "()J" } : Jvm.MethodName)) ∈ bwB := bw_in 173 (by rfl) (by rfl)
theorem hw_174 : (Jvm.Cond.selects "BlockWays$Spread" ({ cls := "BlockWays$Spread", name := "covered", desc := "()J" } : Jvm.MethodName) ({ cls := "BlockWays$Spread", name := "covered", desc := "()J" } : Jvm.MethodName)) ∈ bwB := bw_in 174 (by rfl) (by rfl)
theorem hw_175 : (Jvm.Cond.code ({ cls := "BlockWays$Spread", name := "covered", desc := "()J" } : Jvm.MethodName) prog_3_method_7_code (1 : Nat) (Option.some Jvm.ClassFile.FieldType.long)) ∈ bwB := bw_in 175 (by rfl) (by rfl)
theorem hw_177 : (Jvm.Cond.constantLong "BlockWays$Rounds" (31 : Nat) (-1 : Int64)) ∈ bwB := bw_in 177 (by rfl) (by rfl)
theorem hw_178 : (Jvm.Cond.methodLink "BlockWays$Rounds" (33 : Nat) ({ cls := "BlockWays$Spread", name := "flood", desc := "(JJ)J" } : Jvm.MethodName)) ∈ bwB := bw_in 178 (by rfl) (by rfl)
theorem hw_179 : (Jvm.Cond.methodLink "BlockWays" (82 : Nat) ({ cls := "BlockWays$Spread", name := "covered", desc := "()J" } : Jvm.MethodName)) ∈ bwB := bw_in 179 (by rfl) (by rfl)
theorem hw_180 : (Jvm.Cond.methodLink "BlockWays" (86 : Nat) ({ cls := "BlockWays", name := "freshBackward", desc := "()LBlockWays$Spread;" } : Jvm.MethodName)) ∈ bwB := bw_in 180 (by rfl) (by rfl)
theorem hw_182 : (Jvm.Cond.instanceMethod ({ cls := "BlockWays", name := "freshBackward", desc := "()LBlockWays$Spread;" } : Jvm.MethodName)) ∈ bwB := bw_in 182 (by rfl) (by rfl)
theorem hw_183 : (Jvm.Cond.code ({ cls := "BlockWays", name := "freshBackward", desc := "()LBlockWays$Spread;" } : Jvm.MethodName) prog_1_method_21_code (1 : Nat) (Option.some (Jvm.ClassFile.FieldType.object "BlockWays$Spread"))) ∈ bwB := bw_in 183 (by rfl) (by rfl)
theorem hw_184 : (Jvm.Cond.methodLink "BlockWays" (146 : Nat) ({ cls := "BlockWays", name := "ends", desc := "()J" } : Jvm.MethodName)) ∈ bwB := bw_in 184 (by rfl) (by rfl)
theorem hw_186 : (Jvm.Cond.instanceMethod ({ cls := "BlockWays", name := "ends", desc := "()J" } : Jvm.MethodName)) ∈ bwB := bw_in 186 (by rfl) (by rfl)
theorem hw_187 : (Jvm.Cond.code ({ cls := "BlockWays", name := "ends", desc := "()J" } : Jvm.MethodName) prog_1_method_22_code (4 : Nat) (Option.some Jvm.ClassFile.FieldType.long)) ∈ bwB := bw_in 187 (by rfl) (by rfl)
theorem hw_188 : (Jvm.Cond.methodLink "BlockWays" (89 : Nat) ({ cls := "BlockWays", name := "freshRounds", desc := "()LBlockWays$Rounds;" } : Jvm.MethodName)) ∈ bwB := bw_in 188 (by rfl) (by rfl)
theorem hw_190 : (Jvm.Cond.instanceMethod ({ cls := "BlockWays", name := "freshRounds", desc := "()LBlockWays$Rounds;" } : Jvm.MethodName)) ∈ bwB := bw_in 190 (by rfl) (by rfl)
theorem hw_191 : (Jvm.Cond.code ({ cls := "BlockWays", name := "freshRounds", desc := "()LBlockWays$Rounds;" } : Jvm.MethodName) prog_1_method_19_code (1 : Nat) (Option.some (Jvm.ClassFile.FieldType.object "BlockWays$Rounds"))) ∈ bwB := bw_in 191 (by rfl) (by rfl)
theorem hw_192 : (Jvm.Cond.methodLink "BlockWays" (93 : Nat) ({ cls := "BlockWays$Rounds", name := "number", desc := "()I" } : Jvm.MethodName)) ∈ bwB := bw_in 192 (by rfl) (by rfl)
theorem hw_193 : (Jvm.Cond.instanceMethod ({ cls := "BlockWays$Rounds", name := "number", desc := "()I" } : Jvm.MethodName)) ∈ bwB := bw_in 193 (by rfl) (by rfl)
theorem hw_194 : (Jvm.Cond.selects "BlockWays$Rounds" ({ cls := "BlockWays$Rounds", name := "number", desc := "()I" } : Jvm.MethodName) ({ cls := "BlockWays$Rounds", name := "number", desc := "()I" } : Jvm.MethodName)) ∈ bwB := bw_in 194 (by rfl) (by rfl)
theorem hw_195 : (Jvm.Cond.code ({ cls := "BlockWays$Rounds", name := "number", desc := "()I" } : Jvm.MethodName) prog_2_method_4_code (3 : Nat) (Option.some Jvm.ClassFile.FieldType.int)) ∈ bwB := bw_in 195 (by rfl) (by rfl)
theorem hw_196 : (Jvm.Cond.methodLink "BlockWays" (97 : Nat) ({ cls := "BlockWays$Rounds", name := "deepest", desc := "()I" } : Jvm.MethodName)) ∈ bwB := bw_in 196 (by rfl) (by rfl)
theorem hw_197 : (Jvm.Cond.instanceMethod ({ cls := "BlockWays$Rounds", name := "deepest", desc := "()I" } : Jvm.MethodName)) ∈ bwB := bw_in 197 (by rfl) (by rfl)
theorem hw_198 : (Jvm.Cond.selects "BlockWays$Rounds" ({ cls := "BlockWays$Rounds", name := "deepest", desc := "()I" } : Jvm.MethodName) ({ cls := "BlockWays$Rounds", name := "deepest", desc := "()I" } : Jvm.MethodName)) ∈ bwB := bw_in 198 (by rfl) (by rfl)
theorem hw_199 : (Jvm.Cond.code ({ cls := "BlockWays$Rounds", name := "deepest", desc := "()I" } : Jvm.MethodName) prog_2_method_6_code (3 : Nat) (Option.some Jvm.ClassFile.FieldType.int)) ∈ bwB := bw_in 199 (by rfl) (by rfl)
theorem hw_200 : (Jvm.Cond.methodLink "BlockWays$Rounds" (41 : Nat) ({ cls := "BlockWays$Rounds", name := "numberAround", desc := "(I)I" } : Jvm.MethodName)) ∈ bwB := bw_in 200 (by rfl) (by rfl)
theorem hw_201 : (Jvm.Cond.instanceMethod ({ cls := "BlockWays$Rounds", name := "numberAround", desc := "(I)I" } : Jvm.MethodName)) ∈ bwB := bw_in 201 (by rfl) (by rfl)
theorem hw_202 : (Jvm.Cond.selects "BlockWays$Rounds" ({ cls := "BlockWays$Rounds", name := "numberAround", desc := "(I)I" } : Jvm.MethodName) ({ cls := "BlockWays$Rounds", name := "numberAround", desc := "(I)I" } : Jvm.MethodName)) ∈ bwB := bw_in 202 (by rfl) (by rfl)
theorem hw_203 : (Jvm.Cond.code ({ cls := "BlockWays$Rounds", name := "numberAround", desc := "(I)I" } : Jvm.MethodName) prog_2_method_5_code (4 : Nat) (Option.some Jvm.ClassFile.FieldType.int)) ∈ bwB := bw_in 203 (by rfl) (by rfl)
theorem hw_205 : (Jvm.Cond.methodLink "BlockWays$Rounds" (45 : Nat) ({ cls := "java/lang/Math", name := "max", desc := "(II)I" } : Jvm.MethodName)) ∈ bwB := bw_in 205 (by rfl) (by rfl)
theorem hw_206 : (Jvm.Cond.static ({ cls := "java/lang/Math", name := "max", desc := "(II)I" } : Jvm.MethodName)) ∈ bwB := bw_in 206 (by rfl) (by rfl)
theorem hw_207 : (Jvm.Cond.code ({ cls := "java/lang/Math", name := "max", desc := "(II)I" } : Jvm.MethodName) prog_8_method_65_code (2 : Nat) (Option.some Jvm.ClassFile.FieldType.int)) ∈ bwB := bw_in 207 (by rfl) (by rfl)
theorem hw_208 : (Jvm.Cond.methodLink "BlockWays" (100 : Nat) ({ cls := "BlockWays", name := "isPlain", desc := "()Z" } : Jvm.MethodName)) ∈ bwB := bw_in 208 (by rfl) (by rfl)
theorem hw_210 : (Jvm.Cond.instanceMethod ({ cls := "BlockWays", name := "isPlain", desc := "()Z" } : Jvm.MethodName)) ∈ bwB := bw_in 210 (by rfl) (by rfl)
theorem hw_211 : (Jvm.Cond.code ({ cls := "BlockWays", name := "isPlain", desc := "()Z" } : Jvm.MethodName) prog_1_method_23_code (8 : Nat) (Option.some Jvm.ClassFile.FieldType.boolean)) ∈ bwB := bw_in 211 (by rfl) (by rfl)
theorem hw_212 : (Jvm.Cond.methodLink "BlockWays" (149 : Nat) ({ cls := "BlockWays$Spread", name := "stepsOf", desc := "(I)J" } : Jvm.MethodName)) ∈ bwB := bw_in 212 (by rfl) (by rfl)
theorem hw_213 : (Jvm.Cond.methodLink "BlockWays" (117 : Nat) ({ cls := "BlockWays$Spread", name := "gated", desc := "(I)J" } : Jvm.MethodName)) ∈ bwB := bw_in 213 (by rfl) (by rfl)
theorem hw_214 : (Jvm.Cond.methodLink "BlockWaysLaw" (37 : Nat) ({ cls := "BlockWays", name := "lid", desc := "(I)I" } : Jvm.MethodName)) ∈ bwB := bw_in 214 (by rfl) (by rfl)
theorem hw_215 : (Jvm.Cond.instanceMethod ({ cls := "BlockWays", name := "lid", desc := "(I)I" } : Jvm.MethodName)) ∈ bwB := bw_in 215 (by rfl) (by rfl)
theorem hw_216 : (Jvm.Cond.selects "BlockWays" ({ cls := "BlockWays", name := "lid", desc := "(I)I" } : Jvm.MethodName) ({ cls := "BlockWays", name := "lid", desc := "(I)I" } : Jvm.MethodName)) ∈ bwB := bw_in 216 (by rfl) (by rfl)
theorem hw_217 : (Jvm.Cond.code ({ cls := "BlockWays", name := "lid", desc := "(I)I" } : Jvm.MethodName) prog_1_method_6_code (2 : Nat) (Option.some Jvm.ClassFile.FieldType.int)) ∈ bwB := bw_in 217 (by rfl) (by rfl)
theorem hw_218 : (Jvm.Cond.methodLink "BlockWays" (104 : Nat) ({ cls := "BlockWays$Spread", name := "nearestGate", desc := "(I)I" } : Jvm.MethodName)) ∈ bwB := bw_in 218 (by rfl) (by rfl)
theorem hw_219 : (Jvm.Cond.instanceMethod ({ cls := "BlockWays$Spread", name := "nearestGate", desc := "(I)I" } : Jvm.MethodName)) ∈ bwB := bw_in 219 (by rfl) (by rfl)
theorem hw_220 : (Jvm.Cond.selects "BlockWays$Spread" ({ cls := "BlockWays$Spread", name := "nearestGate", desc := "(I)I" } : Jvm.MethodName) ({ cls := "BlockWays$Spread", name := "nearestGate", desc := "(I)I" } : Jvm.MethodName)) ∈ bwB := bw_in 220 (by rfl) (by rfl)
theorem hw_221 : (Jvm.Cond.code ({ cls := "BlockWays$Spread", name := "nearestGate", desc := "(I)I" } : Jvm.MethodName) prog_3_method_11_code (7 : Nat) (Option.some Jvm.ClassFile.FieldType.int)) ∈ bwB := bw_in 221 (by rfl) (by rfl)
theorem hw_222 : (Jvm.Cond.methodLink "BlockWays$Spread" (40 : Nat) ({ cls := "BlockWays$Spread", name := "gates", desc := "(I)J" } : Jvm.MethodName)) ∈ bwB := bw_in 222 (by rfl) (by rfl)
theorem hw_223 : (Jvm.Cond.instanceMethod ({ cls := "BlockWays$Spread", name := "gates", desc := "(I)J" } : Jvm.MethodName)) ∈ bwB := bw_in 223 (by rfl) (by rfl)
theorem hw_224 : (Jvm.Cond.selects "BlockWays$Spread" ({ cls := "BlockWays$Spread", name := "gates", desc := "(I)J" } : Jvm.MethodName) ({ cls := "BlockWays$Spread", name := "gates", desc := "(I)J" } : Jvm.MethodName)) ∈ bwB := bw_in 224 (by rfl) (by rfl)
theorem hw_225 : (Jvm.Cond.code ({ cls := "BlockWays$Spread", name := "gates", desc := "(I)J" } : Jvm.MethodName) prog_3_method_10_code (5 : Nat) (Option.some Jvm.ClassFile.FieldType.long)) ∈ bwB := bw_in 225 (by rfl) (by rfl)
theorem hw_226 : (Jvm.Cond.methodLink "BlockWaysLaw" (41 : Nat) ({ cls := "BlockWays", name := "meeting", desc := "(I)I" } : Jvm.MethodName)) ∈ bwB := bw_in 226 (by rfl) (by rfl)
theorem hw_227 : (Jvm.Cond.instanceMethod ({ cls := "BlockWays", name := "meeting", desc := "(I)I" } : Jvm.MethodName)) ∈ bwB := bw_in 227 (by rfl) (by rfl)
theorem hw_228 : (Jvm.Cond.selects "BlockWays" ({ cls := "BlockWays", name := "meeting", desc := "(I)I" } : Jvm.MethodName) ({ cls := "BlockWays", name := "meeting", desc := "(I)I" } : Jvm.MethodName)) ∈ bwB := bw_in 228 (by rfl) (by rfl)
theorem hw_229 : (Jvm.Cond.code ({ cls := "BlockWays", name := "meeting", desc := "(I)I" } : Jvm.MethodName) prog_1_method_7_code (2 : Nat) (Option.some Jvm.ClassFile.FieldType.int)) ∈ bwB := bw_in 229 (by rfl) (by rfl)
theorem hw_230 : (Jvm.Cond.methodLink "BlockWaysLaw" (45 : Nat) ({ cls := "BlockWays", name := "set", desc := "(II)J" } : Jvm.MethodName)) ∈ bwB := bw_in 230 (by rfl) (by rfl)
theorem hw_231 : (Jvm.Cond.instanceMethod ({ cls := "BlockWays", name := "set", desc := "(II)J" } : Jvm.MethodName)) ∈ bwB := bw_in 231 (by rfl) (by rfl)
theorem hw_232 : (Jvm.Cond.selects "BlockWays" ({ cls := "BlockWays", name := "set", desc := "(II)J" } : Jvm.MethodName) ({ cls := "BlockWays", name := "set", desc := "(II)J" } : Jvm.MethodName)) ∈ bwB := bw_in 232 (by rfl) (by rfl)
theorem hw_233 : (Jvm.Cond.code ({ cls := "BlockWays", name := "set", desc := "(II)J" } : Jvm.MethodName) prog_1_method_8_code (3 : Nat) (Option.some Jvm.ClassFile.FieldType.long)) ∈ bwB := bw_in 233 (by rfl) (by rfl)
theorem hw_234 : (Jvm.Cond.methodLink "BlockWays" (108 : Nat) ({ cls := "BlockWays$Spread", name := "gates", desc := "(I)J" } : Jvm.MethodName)) ∈ bwB := bw_in 234 (by rfl) (by rfl)
theorem hw_235 : (Jvm.Cond.methodLink "BlockWays" (111 : Nat) ({ cls := "BlockWays$Rounds", name := "blocksOf", desc := "(I)J" } : Jvm.MethodName)) ∈ bwB := bw_in 235 (by rfl) (by rfl)
theorem hw_236 : (Jvm.Cond.instanceMethod ({ cls := "BlockWays$Rounds", name := "blocksOf", desc := "(I)J" } : Jvm.MethodName)) ∈ bwB := bw_in 236 (by rfl) (by rfl)
theorem hw_237 : (Jvm.Cond.selects "BlockWays$Rounds" ({ cls := "BlockWays$Rounds", name := "blocksOf", desc := "(I)J" } : Jvm.MethodName) ({ cls := "BlockWays$Rounds", name := "blocksOf", desc := "(I)J" } : Jvm.MethodName)) ∈ bwB := bw_in 237 (by rfl) (by rfl)
theorem hw_238 : (Jvm.Cond.code ({ cls := "BlockWays$Rounds", name := "blocksOf", desc := "(I)J" } : Jvm.MethodName) prog_2_method_3_code (2 : Nat) (Option.some Jvm.ClassFile.FieldType.long)) ∈ bwB := bw_in 238 (by rfl) (by rfl)
theorem hw_239 : (Jvm.Cond.methodLink "BlockWays" (114 : Nat) ({ cls := "BlockWays$Spread", name := "rim", desc := "(I)J" } : Jvm.MethodName)) ∈ bwB := bw_in 239 (by rfl) (by rfl)
theorem hw_240 : (Jvm.Cond.instanceMethod ({ cls := "BlockWays$Spread", name := "rim", desc := "(I)J" } : Jvm.MethodName)) ∈ bwB := bw_in 240 (by rfl) (by rfl)
theorem hw_241 : (Jvm.Cond.selects "BlockWays$Spread" ({ cls := "BlockWays$Spread", name := "rim", desc := "(I)J" } : Jvm.MethodName) ({ cls := "BlockWays$Spread", name := "rim", desc := "(I)J" } : Jvm.MethodName)) ∈ bwB := bw_in 241 (by rfl) (by rfl)
theorem hw_242 : (Jvm.Cond.code ({ cls := "BlockWays$Spread", name := "rim", desc := "(I)J" } : Jvm.MethodName) prog_3_method_12_code (5 : Nat) (Option.some Jvm.ClassFile.FieldType.long)) ∈ bwB := bw_in 242 (by rfl) (by rfl)
theorem hw_243 : (Jvm.Cond.methodLink "BlockWaysLaw" (50 : Nat) ({ cls := "BlockWays", name := "depth", desc := "(I)I" } : Jvm.MethodName)) ∈ bwB := bw_in 243 (by rfl) (by rfl)
theorem hw_244 : (Jvm.Cond.instanceMethod ({ cls := "BlockWays", name := "depth", desc := "(I)I" } : Jvm.MethodName)) ∈ bwB := bw_in 244 (by rfl) (by rfl)
theorem hw_245 : (Jvm.Cond.selects "BlockWays" ({ cls := "BlockWays", name := "depth", desc := "(I)I" } : Jvm.MethodName) ({ cls := "BlockWays", name := "depth", desc := "(I)I" } : Jvm.MethodName)) ∈ bwB := bw_in 245 (by rfl) (by rfl)
theorem hw_246 : (Jvm.Cond.code ({ cls := "BlockWays", name := "depth", desc := "(I)I" } : Jvm.MethodName) prog_1_method_9_code (2 : Nat) (Option.some Jvm.ClassFile.FieldType.int)) ∈ bwB := bw_in 246 (by rfl) (by rfl)
theorem hw_247 : (Jvm.Cond.methodLink "BlockWays" (120 : Nat) ({ cls := "BlockWays$Rounds", name := "numberAround", desc := "(I)I" } : Jvm.MethodName)) ∈ bwB := bw_in 247 (by rfl) (by rfl)
theorem hw_248 : (Jvm.Cond.methodLink "BlockWaysLaw" (66 : Nat) ({ cls := "BlockWays", name := "joins", desc := "(J)J" } : Jvm.MethodName)) ∈ bwB := bw_in 248 (by rfl) (by rfl)
theorem hw_249 : (Jvm.Cond.instanceMethod ({ cls := "BlockWays", name := "joins", desc := "(J)J" } : Jvm.MethodName)) ∈ bwB := bw_in 249 (by rfl) (by rfl)
theorem hw_250 : (Jvm.Cond.selects "BlockWays" ({ cls := "BlockWays", name := "joins", desc := "(J)J" } : Jvm.MethodName) ({ cls := "BlockWays", name := "joins", desc := "(J)J" } : Jvm.MethodName)) ∈ bwB := bw_in 250 (by rfl) (by rfl)
theorem hw_251 : (Jvm.Cond.code ({ cls := "BlockWays", name := "joins", desc := "(J)J" } : Jvm.MethodName) prog_1_method_11_code (14 : Nat) (Option.some Jvm.ClassFile.FieldType.long)) ∈ bwB := bw_in 251 (by rfl) (by rfl)
theorem hw_252 : (Jvm.Cond.methodLink "BlockWays" (133 : Nat) ({ cls := "BlockWays", name := "lowest", desc := "(J)I" } : Jvm.MethodName)) ∈ bwB := bw_in 252 (by rfl) (by rfl)
theorem hw_253 : (Jvm.Cond.methodLink "BlockWaysLaw" (54 : Nat) ({ cls := "BlockWaysLaw", name := "inner", desc := "(LBlockWays;I[J)I" } : Jvm.MethodName)) ∈ bwB := bw_in 253 (by rfl) (by rfl)
theorem hw_254 : (Jvm.Cond.static ({ cls := "BlockWaysLaw", name := "inner", desc := "(LBlockWays;I[J)I" } : Jvm.MethodName)) ∈ bwB := bw_in 254 (by rfl) (by rfl)
theorem hw_256 : (Jvm.Cond.classLink "BlockWaysLaw" (13 : Nat) "java/util/NoSuchElementException") ∈ bwB := bw_in 256 (by rfl) (by rfl)
theorem hw_257 : (Jvm.Cond.methodLink "BlockWaysLaw" (7 : Nat) ({ cls := "BlockWays", name := "inner", desc := "(I)I" } : Jvm.MethodName)) ∈ bwB := bw_in 257 (by rfl) (by rfl)
theorem hw_258 : (Jvm.Cond.instanceMethod ({ cls := "BlockWays", name := "inner", desc := "(I)I" } : Jvm.MethodName)) ∈ bwB := bw_in 258 (by rfl) (by rfl)
theorem hw_259 : (Jvm.Cond.selects "BlockWays" ({ cls := "BlockWays", name := "inner", desc := "(I)I" } : Jvm.MethodName) ({ cls := "BlockWays", name := "inner", desc := "(I)I" } : Jvm.MethodName)) ∈ bwB := bw_in 259 (by rfl) (by rfl)
theorem hw_260 : (Jvm.Cond.code ({ cls := "BlockWays", name := "inner", desc := "(I)I" } : Jvm.MethodName) prog_1_method_10_code (3 : Nat) (Option.some Jvm.ClassFile.FieldType.int)) ∈ bwB := bw_in 260 (by rfl) (by rfl)
theorem hw_261 : (Jvm.Cond.methodLink "BlockWays" (123 : Nat) ({ cls := "BlockWays$Rounds", name := "smallestAround", desc := "(I)I" } : Jvm.MethodName)) ∈ bwB := bw_in 261 (by rfl) (by rfl)
theorem hw_262 : (Jvm.Cond.instanceMethod ({ cls := "BlockWays$Rounds", name := "smallestAround", desc := "(I)I" } : Jvm.MethodName)) ∈ bwB := bw_in 262 (by rfl) (by rfl)
theorem hw_263 : (Jvm.Cond.selects "BlockWays$Rounds" ({ cls := "BlockWays$Rounds", name := "smallestAround", desc := "(I)I" } : Jvm.MethodName) ({ cls := "BlockWays$Rounds", name := "smallestAround", desc := "(I)I" } : Jvm.MethodName)) ∈ bwB := bw_in 263 (by rfl) (by rfl)
theorem hw_264 : (Jvm.Cond.code ({ cls := "BlockWays$Rounds", name := "smallestAround", desc := "(I)I" } : Jvm.MethodName) prog_2_method_7_code (6 : Nat) (Option.some Jvm.ClassFile.FieldType.int)) ∈ bwB := bw_in 264 (by rfl) (by rfl)
theorem hw_265 : (Jvm.Cond.methodLink "BlockWays$Rounds" (51 : Nat) ({ cls := "java/lang/Long", name := "bitCount", desc := "(J)I" } : Jvm.MethodName)) ∈ bwB := bw_in 265 (by rfl) (by rfl)
theorem hw_266 : (Jvm.Cond.classLink "BlockWays" (126 : Nat) "java/util/NoSuchElementException") ∈ bwB := bw_in 266 (by rfl) (by rfl)
theorem hw_267 : (Jvm.Cond.instantiable "java/util/NoSuchElementException" (6 : Nat)) ∈ bwB := bw_in 267 (by rfl) (by rfl)
theorem hw_275 : (Jvm.Cond.selects "java/util/NoSuchElementException" ({ cls := "java/lang/Throwable", name := "fillInStackTrace", desc := "(I)Ljava/lang/Throwable;" } : Jvm.MethodName) ({ cls := "java/lang/Throwable", name := "fillInStackTrace", desc := "(I)Ljava/lang/Throwable;" } : Jvm.MethodName)) ∈ bwB := bw_in 275 (by rfl) (by rfl)
theorem hw_276 : (Jvm.Cond.selects "java/util/NoSuchElementException" ({ cls := "java/lang/Throwable", name := "fillInStackTrace", desc := "()Ljava/lang/Throwable;" } : Jvm.MethodName) ({ cls := "java/lang/Throwable", name := "fillInStackTrace", desc := "()Ljava/lang/Throwable;" } : Jvm.MethodName)) ∈ bwB := bw_in 276 (by rfl) (by rfl)
theorem hw_277 : (Jvm.Cond.lays "java/util/NoSuchElementException" "java/lang/Throwable" "cause" "Ljava/lang/Throwable;") ∈ bwB := bw_in 277 (by rfl) (by rfl)
theorem hw_278 : (Jvm.Cond.lays "java/lang/Throwable" "java/lang/Throwable" "cause" "Ljava/lang/Throwable;") ∈ bwB := bw_in 278 (by rfl) (by rfl)
theorem hw_279 : (Jvm.Cond.lays "java/util/NoSuchElementException" "java/lang/Throwable" "stackTrace" "[Ljava/lang/StackTraceElement;") ∈ bwB := bw_in 279 (by rfl) (by rfl)
theorem hw_280 : (Jvm.Cond.lays "java/lang/Throwable" "java/lang/Throwable" "stackTrace" "[Ljava/lang/StackTraceElement;") ∈ bwB := bw_in 280 (by rfl) (by rfl)
theorem hw_281 : (Jvm.Cond.lays "java/util/NoSuchElementException" "java/lang/Throwable" "suppressedExceptions" "Ljava/util/List;") ∈ bwB := bw_in 281 (by rfl) (by rfl)
theorem hw_282 : (Jvm.Cond.lays "java/lang/Throwable" "java/lang/Throwable" "suppressedExceptions" "Ljava/util/List;") ∈ bwB := bw_in 282 (by rfl) (by rfl)
theorem hw_283 : (Jvm.Cond.lays "java/util/NoSuchElementException" "java/lang/Throwable" "detailMessage" "Ljava/lang/String;") ∈ bwB := bw_in 283 (by rfl) (by rfl)
theorem hw_284 : (Jvm.Cond.lays "java/lang/Throwable" "java/lang/Throwable" "detailMessage" "Ljava/lang/String;") ∈ bwB := bw_in 284 (by rfl) (by rfl)
theorem hw_285 : (Jvm.Cond.lays "java/util/NoSuchElementException" "java/lang/Throwable" "backtrace" "Ljava/lang/Object;") ∈ bwB := bw_in 285 (by rfl) (by rfl)
theorem hw_286 : (Jvm.Cond.lays "java/lang/Throwable" "java/lang/Throwable" "backtrace" "Ljava/lang/Object;") ∈ bwB := bw_in 286 (by rfl) (by rfl)
theorem hw_287 : (Jvm.Cond.fieldLink "java/lang/Throwable" (198 : Nat) "java/lang/Throwable" "backtrace" "Ljava/lang/Object;") ∈ bwB := bw_in 287 (by rfl) (by rfl)
theorem hw_289 : (Jvm.Cond.instanceMethod ({ cls := "java/lang/Throwable", name := "<init>", desc := "()V" } : Jvm.MethodName)) ∈ bwB := bw_in 289 (by rfl) (by rfl)
theorem hw_290 : (Jvm.Cond.code ({ cls := "java/lang/Throwable", name := "<init>", desc := "()V" } : Jvm.MethodName) prog_11_method_1_code (1 : Nat) (Option.none : Option Jvm.ClassFile.FieldType)) ∈ bwB := bw_in 290 (by rfl) (by rfl)
theorem hw_291 : (Jvm.Cond.methodLink "java/lang/Throwable" (1 : Nat) ({ cls := "java/lang/Object", name := "<init>", desc := "()V" } : Jvm.MethodName)) ∈ bwB := bw_in 291 (by rfl) (by rfl)
theorem hw_292 : (Jvm.Cond.fieldLink "java/lang/Throwable" (13 : Nat) "java/lang/Throwable" "UNASSIGNED_STACK" "[Ljava/lang/StackTraceElement;") ∈ bwB := bw_in 292 (by rfl) (by rfl)
theorem hw_294 : (Jvm.Cond.fieldLink "java/lang/Throwable" (20 : Nat) "java/lang/Throwable" "SUPPRESSED_SENTINEL" "Ljava/util/List;") ∈ bwB := bw_in 294 (by rfl) (by rfl)
theorem hw_296 : (Jvm.Cond.methodLink "java/lang/Throwable" (27 : Nat) ({ cls := "java/lang/Throwable", name := "fillInStackTrace", desc := "()Ljava/lang/Throwable;" } : Jvm.MethodName)) ∈ bwB := bw_in 296 (by rfl) (by rfl)
theorem hw_297 : (Jvm.Cond.instanceMethod ({ cls := "java/lang/Throwable", name := "fillInStackTrace", desc := "()Ljava/lang/Throwable;" } : Jvm.MethodName)) ∈ bwB := bw_in 297 (by rfl) (by rfl)
theorem hw_300 : (Jvm.Cond.methodLink "java/lang/Throwable" (202 : Nat) ({ cls := "java/lang/Throwable", name := "fillInStackTrace", desc := "(I)Ljava/lang/Throwable;" } : Jvm.MethodName)) ∈ bwB := bw_in 300 (by rfl) (by rfl)
theorem hw_302 : (Jvm.Cond.instanceMethod ({ cls := "java/lang/Throwable", name := "fillInStackTrace", desc := "(I)Ljava/lang/Throwable;" } : Jvm.MethodName)) ∈ bwB := bw_in 302 (by rfl) (by rfl)
theorem hw_303 : (Jvm.Cond.instantiable "java/lang/Throwable" (6 : Nat)) ∈ bwB := bw_in 303 (by rfl) (by rfl)
theorem hw_306 : (Jvm.Cond.methodLink "BlockWays" (130 : Nat) ({ cls := "java/util/NoSuchElementException", name := "<init>", desc := "(Ljava/lang/String;)V" } : Jvm.MethodName)) ∈ bwB := bw_in 306 (by rfl) (by rfl)
theorem hw_307 : (Jvm.Cond.instanceMethod ({ cls := "java/util/NoSuchElementException", name := "<init>", desc := "(Ljava/lang/String;)V" } : Jvm.MethodName)) ∈ bwB := bw_in 307 (by rfl) (by rfl)
theorem hw_308 : (Jvm.Cond.code ({ cls := "java/util/NoSuchElementException", name := "<init>", desc := "(Ljava/lang/String;)V" } : Jvm.MethodName) prog_12_method_4_code (2 : Nat) (Option.none : Option Jvm.ClassFile.FieldType)) ∈ bwB := bw_in 308 (by rfl) (by rfl)
theorem hw_309 : (Jvm.Cond.methodLink "java/util/NoSuchElementException" (13 : Nat) ({ cls := "java/lang/RuntimeException", name := "<init>", desc := "(Ljava/lang/String;)V" } : Jvm.MethodName)) ∈ bwB := bw_in 309 (by rfl) (by rfl)
theorem hw_310 : (Jvm.Cond.instanceMethod ({ cls := "java/lang/RuntimeException", name := "<init>", desc := "(Ljava/lang/String;)V" } : Jvm.MethodName)) ∈ bwB := bw_in 310 (by rfl) (by rfl)
theorem hw_311 : (Jvm.Cond.code ({ cls := "java/lang/RuntimeException", name := "<init>", desc := "(Ljava/lang/String;)V" } : Jvm.MethodName) prog_9_method_2_code (2 : Nat) (Option.none : Option Jvm.ClassFile.FieldType)) ∈ bwB := bw_in 311 (by rfl) (by rfl)
theorem hw_312 : (Jvm.Cond.methodLink "java/lang/RuntimeException" (7 : Nat) ({ cls := "java/lang/Exception", name := "<init>", desc := "(Ljava/lang/String;)V" } : Jvm.MethodName)) ∈ bwB := bw_in 312 (by rfl) (by rfl)
theorem hw_313 : (Jvm.Cond.instanceMethod ({ cls := "java/lang/Exception", name := "<init>", desc := "(Ljava/lang/String;)V" } : Jvm.MethodName)) ∈ bwB := bw_in 313 (by rfl) (by rfl)
theorem hw_314 : (Jvm.Cond.code ({ cls := "java/lang/Exception", name := "<init>", desc := "(Ljava/lang/String;)V" } : Jvm.MethodName) prog_6_method_2_code (2 : Nat) (Option.none : Option Jvm.ClassFile.FieldType)) ∈ bwB := bw_in 314 (by rfl) (by rfl)
theorem hw_315 : (Jvm.Cond.methodLink "java/lang/Exception" (7 : Nat) ({ cls := "java/lang/Throwable", name := "<init>", desc := "(Ljava/lang/String;)V" } : Jvm.MethodName)) ∈ bwB := bw_in 315 (by rfl) (by rfl)
theorem hw_316 : (Jvm.Cond.instanceMethod ({ cls := "java/lang/Throwable", name := "<init>", desc := "(Ljava/lang/String;)V" } : Jvm.MethodName)) ∈ bwB := bw_in 316 (by rfl) (by rfl)
theorem hw_317 : (Jvm.Cond.code ({ cls := "java/lang/Throwable", name := "<init>", desc := "(Ljava/lang/String;)V" } : Jvm.MethodName) prog_11_method_2_code (2 : Nat) (Option.none : Option Jvm.ClassFile.FieldType)) ∈ bwB := bw_in 317 (by rfl) (by rfl)
theorem hw_318 : (Jvm.Cond.fieldLink "java/lang/Throwable" (198 : Nat) "java/lang/Throwable" "backtrace" "Ljava/lang/Object;") ∈ bwB := bw_in 318 (by rfl) (by rfl)
theorem hw_319 : (Jvm.Cond.fieldLink "java/lang/Throwable" (31 : Nat) "java/lang/Throwable" "detailMessage" "Ljava/lang/String;") ∈ bwB := bw_in 319 (by rfl) (by rfl)
theorem hw_320 : (Jvm.Cond.fieldLink "java/lang/Throwable" (7 : Nat) "java/lang/Throwable" "cause" "Ljava/lang/Throwable;") ∈ bwB := bw_in 320 (by rfl) (by rfl)
theorem hw_321 : (Jvm.Cond.fieldLink "java/lang/Throwable" (17 : Nat) "java/lang/Throwable" "stackTrace" "[Ljava/lang/StackTraceElement;") ∈ bwB := bw_in 321 (by rfl) (by rfl)
theorem hw_322 : (Jvm.Cond.fieldLink "java/lang/Throwable" (24 : Nat) "java/lang/Throwable" "suppressedExceptions" "Ljava/util/List;") ∈ bwB := bw_in 322 (by rfl) (by rfl)
theorem hw_327 : (Jvm.Cond.lays "java/util/NoSuchElementException" "java/lang/Throwable" "depth" "I") ∈ bwB := bw_in 327 (by rfl) (by rfl)
theorem hw_331 : (Jvm.Cond.arrayClass Jvm.ClassFile.FieldType.byte) ∈ bwB := bw_in 331 (by rfl) (by rfl)
theorem hw_332 : (Jvm.Cond.classLink "BlockWaysLaw" (16 : Nat) "BlockWaysModel") ∈ bwB := bw_in 332 (by rfl) (by rfl)
theorem hw_333 : (Jvm.Cond.instantiable "BlockWaysModel" (15 : Nat)) ∈ bwB := bw_in 333 (by rfl) (by rfl)
theorem hw_334 : (Jvm.Cond.methodLink "BlockWaysLaw" (18 : Nat) ({ cls := "BlockWaysModel", name := "<init>", desc := "()V" } : Jvm.MethodName)) ∈ bwB := bw_in 334 (by rfl) (by rfl)
theorem hw_335 : (Jvm.Cond.instanceMethod ({ cls := "BlockWaysModel", name := "<init>", desc := "()V" } : Jvm.MethodName)) ∈ bwB := bw_in 335 (by rfl) (by rfl)
theorem hw_336 : (Jvm.Cond.code ({ cls := "BlockWaysModel", name := "<init>", desc := "()V" } : Jvm.MethodName) prog_5_method_1_code (1 : Nat) (Option.none : Option Jvm.ClassFile.FieldType)) ∈ bwB := bw_in 336 (by rfl) (by rfl)
theorem hw_337 : (Jvm.Cond.methodLink "BlockWaysModel" (1 : Nat) ({ cls := "java/lang/Object", name := "<init>", desc := "()V" } : Jvm.MethodName)) ∈ bwB := bw_in 337 (by rfl) (by rfl)
theorem hw_338 : (Jvm.Cond.fieldLink "BlockWaysModel" (32 : Nat) "BlockWaysModel" "thrown" "I") ∈ bwB := bw_in 338 (by rfl) (by rfl)
theorem hw_339 : (Jvm.Cond.fieldLink "BlockWaysModel" (44 : Nat) "BlockWaysModel" "there" "J") ∈ bwB := bw_in 339 (by rfl) (by rfl)
theorem hw_340 : (Jvm.Cond.fieldLink "BlockWaysModel" (7 : Nat) "BlockWaysModel" "many" "[I") ∈ bwB := bw_in 340 (by rfl) (by rfl)
theorem hw_341 : (Jvm.Cond.fieldLink "BlockWaysModel" (13 : Nat) "BlockWaysModel" "targets" "[I") ∈ bwB := bw_in 341 (by rfl) (by rfl)
theorem hw_342 : (Jvm.Cond.fieldLink "BlockWaysModel" (52 : Nat) "BlockWaysModel" "known" "Z") ∈ bwB := bw_in 342 (by rfl) (by rfl)
theorem hw_343 : (Jvm.Cond.fieldLink "BlockWaysModel" (16 : Nat) "BlockWaysModel" "steps" "[J") ∈ bwB := bw_in 343 (by rfl) (by rfl)
theorem hw_344 : (Jvm.Cond.fieldLink "BlockWaysModel" (64 : Nat) "BlockWaysModel" "reached" "J") ∈ bwB := bw_in 344 (by rfl) (by rfl)
theorem hw_345 : (Jvm.Cond.fieldLink "BlockWaysModel" (71 : Nat) "BlockWaysModel" "good" "J") ∈ bwB := bw_in 345 (by rfl) (by rfl)
theorem hw_346 : (Jvm.Cond.fieldLink "BlockWaysModel" (58 : Nat) "BlockWaysModel" "ends" "J") ∈ bwB := bw_in 346 (by rfl) (by rfl)
theorem hw_347 : (Jvm.Cond.fieldLink "BlockWaysModel" (20 : Nat) "BlockWaysModel" "over" "[J") ∈ bwB := bw_in 347 (by rfl) (by rfl)
theorem hw_348 : (Jvm.Cond.fieldLink "BlockWaysModel" (23 : Nat) "BlockWaysModel" "behind" "[J") ∈ bwB := bw_in 348 (by rfl) (by rfl)
theorem hw_349 : (Jvm.Cond.fieldLink "BlockWaysModel" (80 : Nat) "BlockWaysModel" "heads" "J") ∈ bwB := bw_in 349 (by rfl) (by rfl)
theorem hw_350 : (Jvm.Cond.fieldLink "BlockWaysModel" (26 : Nat) "BlockWaysModel" "rounds" "[J") ∈ bwB := bw_in 350 (by rfl) (by rfl)
theorem hw_351 : (Jvm.Cond.fieldLink "BlockWaysModel" (29 : Nat) "BlockWaysModel" "edges" "[J") ∈ bwB := bw_in 351 (by rfl) (by rfl)
theorem hw_352 : (Jvm.Cond.fieldLink "BlockWaysModel" (83 : Nat) "BlockWaysModel" "plain" "Z") ∈ bwB := bw_in 352 (by rfl) (by rfl)
theorem hw_353 : (Jvm.Cond.lays "BlockWaysModel" "BlockWaysModel" "thrown" "I") ∈ bwB := bw_in 353 (by rfl) (by rfl)
theorem hw_355 : (Jvm.Cond.lays "BlockWaysModel" "BlockWaysModel" "there" "J") ∈ bwB := bw_in 355 (by rfl) (by rfl)
theorem hw_357 : (Jvm.Cond.laysFinal "BlockWaysModel" "BlockWaysModel" "many" "[I") ∈ bwB := bw_in 357 (by rfl) (by rfl)
theorem hw_359 : (Jvm.Cond.laysFinal "BlockWaysModel" "BlockWaysModel" "targets" "[I") ∈ bwB := bw_in 359 (by rfl) (by rfl)
theorem hw_361 : (Jvm.Cond.lays "BlockWaysModel" "BlockWaysModel" "known" "Z") ∈ bwB := bw_in 361 (by rfl) (by rfl)
theorem hw_363 : (Jvm.Cond.laysFinal "BlockWaysModel" "BlockWaysModel" "steps" "[J") ∈ bwB := bw_in 363 (by rfl) (by rfl)
theorem hw_365 : (Jvm.Cond.lays "BlockWaysModel" "BlockWaysModel" "reached" "J") ∈ bwB := bw_in 365 (by rfl) (by rfl)
theorem hw_367 : (Jvm.Cond.lays "BlockWaysModel" "BlockWaysModel" "good" "J") ∈ bwB := bw_in 367 (by rfl) (by rfl)
theorem hw_369 : (Jvm.Cond.lays "BlockWaysModel" "BlockWaysModel" "ends" "J") ∈ bwB := bw_in 369 (by rfl) (by rfl)
theorem hw_371 : (Jvm.Cond.laysFinal "BlockWaysModel" "BlockWaysModel" "over" "[J") ∈ bwB := bw_in 371 (by rfl) (by rfl)
theorem hw_373 : (Jvm.Cond.laysFinal "BlockWaysModel" "BlockWaysModel" "behind" "[J") ∈ bwB := bw_in 373 (by rfl) (by rfl)
theorem hw_375 : (Jvm.Cond.lays "BlockWaysModel" "BlockWaysModel" "heads" "J") ∈ bwB := bw_in 375 (by rfl) (by rfl)
theorem hw_377 : (Jvm.Cond.laysFinal "BlockWaysModel" "BlockWaysModel" "rounds" "[J") ∈ bwB := bw_in 377 (by rfl) (by rfl)
theorem hw_379 : (Jvm.Cond.laysFinal "BlockWaysModel" "BlockWaysModel" "edges" "[J") ∈ bwB := bw_in 379 (by rfl) (by rfl)
theorem hw_381 : (Jvm.Cond.lays "BlockWaysModel" "BlockWaysModel" "plain" "Z") ∈ bwB := bw_in 381 (by rfl) (by rfl)
theorem hw_384 : (Jvm.Cond.methodLink "BlockWaysLaw" (60 : Nat) ({ cls := "BlockWaysModel", name := "thrown", desc := "()I" } : Jvm.MethodName)) ∈ bwB := bw_in 384 (by rfl) (by rfl)
theorem hw_385 : (Jvm.Cond.instanceMethod ({ cls := "BlockWaysModel", name := "thrown", desc := "()I" } : Jvm.MethodName)) ∈ bwB := bw_in 385 (by rfl) (by rfl)
theorem hw_386 : (Jvm.Cond.selects "BlockWaysModel" ({ cls := "BlockWaysModel", name := "thrown", desc := "()I" } : Jvm.MethodName) ({ cls := "BlockWaysModel", name := "thrown", desc := "()I" } : Jvm.MethodName)) ∈ bwB := bw_in 386 (by rfl) (by rfl)
theorem hw_387 : (Jvm.Cond.code ({ cls := "BlockWaysModel", name := "thrown", desc := "()I" } : Jvm.MethodName) prog_5_method_2_code (1 : Nat) (Option.some Jvm.ClassFile.FieldType.int)) ∈ bwB := bw_in 387 (by rfl) (by rfl)
theorem hw_388 : (Jvm.Cond.methodLink "BlockWaysLaw" (23 : Nat) ({ cls := "BlockWaysModel", name := "block", desc := "(I)Z" } : Jvm.MethodName)) ∈ bwB := bw_in 388 (by rfl) (by rfl)
theorem hw_389 : (Jvm.Cond.instanceMethod ({ cls := "BlockWaysModel", name := "block", desc := "(I)Z" } : Jvm.MethodName)) ∈ bwB := bw_in 389 (by rfl) (by rfl)
theorem hw_390 : (Jvm.Cond.selects "BlockWaysModel" ({ cls := "BlockWaysModel", name := "block", desc := "(I)Z" } : Jvm.MethodName) ({ cls := "BlockWaysModel", name := "block", desc := "(I)Z" } : Jvm.MethodName)) ∈ bwB := bw_in 390 (by rfl) (by rfl)
theorem hw_391 : (Jvm.Cond.code ({ cls := "BlockWaysModel", name := "block", desc := "(I)Z" } : Jvm.MethodName) prog_5_method_7_code (2 : Nat) (Option.some Jvm.ClassFile.FieldType.boolean)) ∈ bwB := bw_in 391 (by rfl) (by rfl)
theorem hw_392 : (Jvm.Cond.methodLink "BlockWaysModel" (40 : Nat) ({ cls := "BlockWaysModel", name := "isBlock", desc := "(I)Z" } : Jvm.MethodName)) ∈ bwB := bw_in 392 (by rfl) (by rfl)
theorem hw_393 : (Jvm.Cond.static ({ cls := "BlockWaysModel", name := "isBlock", desc := "(I)Z" } : Jvm.MethodName)) ∈ bwB := bw_in 393 (by rfl) (by rfl)
theorem hw_394 : (Jvm.Cond.code ({ cls := "BlockWaysModel", name := "isBlock", desc := "(I)Z" } : Jvm.MethodName) prog_5_method_3_code (1 : Nat) (Option.some Jvm.ClassFile.FieldType.boolean)) ∈ bwB := bw_in 394 (by rfl) (by rfl)
theorem hw_395 : (Jvm.Cond.methodLink "BlockWaysModel" (36 : Nat) ({ cls := "BlockWaysModel", name := "is", desc := "(JI)Z" } : Jvm.MethodName)) ∈ bwB := bw_in 395 (by rfl) (by rfl)
theorem hw_396 : (Jvm.Cond.static ({ cls := "BlockWaysModel", name := "is", desc := "(JI)Z" } : Jvm.MethodName)) ∈ bwB := bw_in 396 (by rfl) (by rfl)
theorem hw_397 : (Jvm.Cond.code ({ cls := "BlockWaysModel", name := "is", desc := "(JI)Z" } : Jvm.MethodName) prog_5_method_4_code (3 : Nat) (Option.some Jvm.ClassFile.FieldType.boolean)) ∈ bwB := bw_in 397 (by rfl) (by rfl)
theorem hw_398 : (Jvm.Cond.methodLink "BlockWaysModel" (48 : Nat) ({ cls := "BlockWaysModel", name := "bit", desc := "(I)J" } : Jvm.MethodName)) ∈ bwB := bw_in 398 (by rfl) (by rfl)
theorem hw_399 : (Jvm.Cond.static ({ cls := "BlockWaysModel", name := "bit", desc := "(I)J" } : Jvm.MethodName)) ∈ bwB := bw_in 399 (by rfl) (by rfl)
theorem hw_400 : (Jvm.Cond.code ({ cls := "BlockWaysModel", name := "bit", desc := "(I)J" } : Jvm.MethodName) prog_5_method_5_code (1 : Nat) (Option.some Jvm.ClassFile.FieldType.long)) ∈ bwB := bw_in 400 (by rfl) (by rfl)
theorem hw_401 : (Jvm.Cond.methodLink "BlockWaysLaw" (28 : Nat) ({ cls := "BlockWaysModel", name := "target", desc := "(II)Z" } : Jvm.MethodName)) ∈ bwB := bw_in 401 (by rfl) (by rfl)
theorem hw_402 : (Jvm.Cond.instanceMethod ({ cls := "BlockWaysModel", name := "target", desc := "(II)Z" } : Jvm.MethodName)) ∈ bwB := bw_in 402 (by rfl) (by rfl)
theorem hw_403 : (Jvm.Cond.selects "BlockWaysModel" ({ cls := "BlockWaysModel", name := "target", desc := "(II)Z" } : Jvm.MethodName) ({ cls := "BlockWaysModel", name := "target", desc := "(II)Z" } : Jvm.MethodName)) ∈ bwB := bw_in 403 (by rfl) (by rfl)
theorem hw_404 : (Jvm.Cond.code ({ cls := "BlockWaysModel", name := "target", desc := "(II)Z" } : Jvm.MethodName) prog_5_method_8_code (3 : Nat) (Option.some Jvm.ClassFile.FieldType.boolean)) ∈ bwB := bw_in 404 (by rfl) (by rfl)
theorem hw_405 : (Jvm.Cond.methodLink "BlockWaysLaw" (32 : Nat) ({ cls := "BlockWaysModel", name := "drop", desc := "(I)Z" } : Jvm.MethodName)) ∈ bwB := bw_in 405 (by rfl) (by rfl)
theorem hw_406 : (Jvm.Cond.instanceMethod ({ cls := "BlockWaysModel", name := "drop", desc := "(I)Z" } : Jvm.MethodName)) ∈ bwB := bw_in 406 (by rfl) (by rfl)
theorem hw_407 : (Jvm.Cond.selects "BlockWaysModel" ({ cls := "BlockWaysModel", name := "drop", desc := "(I)Z" } : Jvm.MethodName) ({ cls := "BlockWaysModel", name := "drop", desc := "(I)Z" } : Jvm.MethodName)) ∈ bwB := bw_in 407 (by rfl) (by rfl)
theorem hw_408 : (Jvm.Cond.code ({ cls := "BlockWaysModel", name := "drop", desc := "(I)Z" } : Jvm.MethodName) prog_5_method_9_code (2 : Nat) (Option.some Jvm.ClassFile.FieldType.boolean)) ∈ bwB := bw_in 408 (by rfl) (by rfl)
theorem hw_409 : (Jvm.Cond.constantLong "BlockWaysModel" (56 : Nat) (-1 : Int64)) ∈ bwB := bw_in 409 (by rfl) (by rfl)
theorem hw_410 : (Jvm.Cond.methodLink "BlockWaysLaw" (36 : Nat) ({ cls := "BlockWaysModel", name := "count", desc := "(I)I" } : Jvm.MethodName)) ∈ bwB := bw_in 410 (by rfl) (by rfl)
theorem hw_411 : (Jvm.Cond.instanceMethod ({ cls := "BlockWaysModel", name := "count", desc := "(I)I" } : Jvm.MethodName)) ∈ bwB := bw_in 411 (by rfl) (by rfl)
theorem hw_412 : (Jvm.Cond.selects "BlockWaysModel" ({ cls := "BlockWaysModel", name := "count", desc := "(I)I" } : Jvm.MethodName) ({ cls := "BlockWaysModel", name := "count", desc := "(I)I" } : Jvm.MethodName)) ∈ bwB := bw_in 412 (by rfl) (by rfl)
theorem hw_413 : (Jvm.Cond.code ({ cls := "BlockWaysModel", name := "count", desc := "(I)I" } : Jvm.MethodName) prog_5_method_16_code (4 : Nat) (Option.some Jvm.ClassFile.FieldType.int)) ∈ bwB := bw_in 413 (by rfl) (by rfl)
theorem hw_414 : (Jvm.Cond.methodLink "BlockWaysModel" (86 : Nat) ({ cls := "BlockWaysModel", name := "look", desc := "()V" } : Jvm.MethodName)) ∈ bwB := bw_in 414 (by rfl) (by rfl)
theorem hw_416 : (Jvm.Cond.instanceMethod ({ cls := "BlockWaysModel", name := "look", desc := "()V" } : Jvm.MethodName)) ∈ bwB := bw_in 416 (by rfl) (by rfl)
theorem hw_417 : (Jvm.Cond.code ({ cls := "BlockWaysModel", name := "look", desc := "()V" } : Jvm.MethodName) prog_5_method_12_code (7 : Nat) (Option.none : Option Jvm.ClassFile.FieldType)) ∈ bwB := bw_in 417 (by rfl) (by rfl)
theorem hw_418 : (Jvm.Cond.methodLink "BlockWaysModel" (61 : Nat) ({ cls := "BlockWaysModel", name := "comeTo", desc := "(I)J" } : Jvm.MethodName)) ∈ bwB := bw_in 418 (by rfl) (by rfl)
theorem hw_420 : (Jvm.Cond.instanceMethod ({ cls := "BlockWaysModel", name := "comeTo", desc := "(I)J" } : Jvm.MethodName)) ∈ bwB := bw_in 420 (by rfl) (by rfl)
theorem hw_421 : (Jvm.Cond.code ({ cls := "BlockWaysModel", name := "comeTo", desc := "(I)J" } : Jvm.MethodName) prog_5_method_10_code (8 : Nat) (Option.some Jvm.ClassFile.FieldType.long)) ∈ bwB := bw_in 421 (by rfl) (by rfl)
theorem hw_422 : (Jvm.Cond.methodLink "BlockWaysModel" (67 : Nat) ({ cls := "BlockWaysModel", name := "leadTo", desc := "(JI)J" } : Jvm.MethodName)) ∈ bwB := bw_in 422 (by rfl) (by rfl)
theorem hw_424 : (Jvm.Cond.instanceMethod ({ cls := "BlockWaysModel", name := "leadTo", desc := "(JI)J" } : Jvm.MethodName)) ∈ bwB := bw_in 424 (by rfl) (by rfl)
theorem hw_425 : (Jvm.Cond.code ({ cls := "BlockWaysModel", name := "leadTo", desc := "(JI)J" } : Jvm.MethodName) prog_5_method_11_code (12 : Nat) (Option.some Jvm.ClassFile.FieldType.long)) ∈ bwB := bw_in 425 (by rfl) (by rfl)
theorem hw_426 : (Jvm.Cond.methodLink "BlockWaysModel" (74 : Nat) ({ cls := "BlockWaysModel", name := "lookAtRounds", desc := "()V" } : Jvm.MethodName)) ∈ bwB := bw_in 426 (by rfl) (by rfl)
theorem hw_428 : (Jvm.Cond.instanceMethod ({ cls := "BlockWaysModel", name := "lookAtRounds", desc := "()V" } : Jvm.MethodName)) ∈ bwB := bw_in 428 (by rfl) (by rfl)
theorem hw_429 : (Jvm.Cond.code ({ cls := "BlockWaysModel", name := "lookAtRounds", desc := "()V" } : Jvm.MethodName) prog_5_method_13_code (5 : Nat) (Option.none : Option Jvm.ClassFile.FieldType)) ∈ bwB := bw_in 429 (by rfl) (by rfl)
theorem hw_430 : (Jvm.Cond.methodLink "BlockWaysModel" (77 : Nat) ({ cls := "BlockWaysModel", name := "lookAtEdges", desc := "()V" } : Jvm.MethodName)) ∈ bwB := bw_in 430 (by rfl) (by rfl)
theorem hw_432 : (Jvm.Cond.instanceMethod ({ cls := "BlockWaysModel", name := "lookAtEdges", desc := "()V" } : Jvm.MethodName)) ∈ bwB := bw_in 432 (by rfl) (by rfl)
theorem hw_433 : (Jvm.Cond.code ({ cls := "BlockWaysModel", name := "lookAtEdges", desc := "()V" } : Jvm.MethodName) prog_5_method_14_code (4 : Nat) (Option.none : Option Jvm.ClassFile.FieldType)) ∈ bwB := bw_in 433 (by rfl) (by rfl)
theorem hw_434 : (Jvm.Cond.methodLink "BlockWaysModel" (89 : Nat) ({ cls := "BlockWaysModel", name := "sizeOf", desc := "(J)I" } : Jvm.MethodName)) ∈ bwB := bw_in 434 (by rfl) (by rfl)
theorem hw_435 : (Jvm.Cond.static ({ cls := "BlockWaysModel", name := "sizeOf", desc := "(J)I" } : Jvm.MethodName)) ∈ bwB := bw_in 435 (by rfl) (by rfl)
theorem hw_436 : (Jvm.Cond.code ({ cls := "BlockWaysModel", name := "sizeOf", desc := "(J)I" } : Jvm.MethodName) prog_5_method_6_code (4 : Nat) (Option.some Jvm.ClassFile.FieldType.int)) ∈ bwB := bw_in 436 (by rfl) (by rfl)
theorem hw_437 : (Jvm.Cond.methodLink "BlockWaysModel" (93 : Nat) ({ cls := "BlockWaysModel", name := "in", desc := "(I)I" } : Jvm.MethodName)) ∈ bwB := bw_in 437 (by rfl) (by rfl)
theorem hw_439 : (Jvm.Cond.instanceMethod ({ cls := "BlockWaysModel", name := "in", desc := "(I)I" } : Jvm.MethodName)) ∈ bwB := bw_in 439 (by rfl) (by rfl)
theorem hw_440 : (Jvm.Cond.code ({ cls := "BlockWaysModel", name := "in", desc := "(I)I" } : Jvm.MethodName) prog_5_method_17_code (4 : Nat) (Option.some Jvm.ClassFile.FieldType.int)) ∈ bwB := bw_in 440 (by rfl) (by rfl)
theorem hw_441 : (Jvm.Cond.methodLink "BlockWaysLaw" (40 : Nat) ({ cls := "BlockWaysModel", name := "lid", desc := "(I)I" } : Jvm.MethodName)) ∈ bwB := bw_in 441 (by rfl) (by rfl)
theorem hw_442 : (Jvm.Cond.instanceMethod ({ cls := "BlockWaysModel", name := "lid", desc := "(I)I" } : Jvm.MethodName)) ∈ bwB := bw_in 442 (by rfl) (by rfl)
theorem hw_443 : (Jvm.Cond.selects "BlockWaysModel" ({ cls := "BlockWaysModel", name := "lid", desc := "(I)I" } : Jvm.MethodName) ({ cls := "BlockWaysModel", name := "lid", desc := "(I)I" } : Jvm.MethodName)) ∈ bwB := bw_in 443 (by rfl) (by rfl)
theorem hw_444 : (Jvm.Cond.code ({ cls := "BlockWaysModel", name := "lid", desc := "(I)I" } : Jvm.MethodName) prog_5_method_18_code (2 : Nat) (Option.some Jvm.ClassFile.FieldType.int)) ∈ bwB := bw_in 444 (by rfl) (by rfl)
theorem hw_445 : (Jvm.Cond.methodLink "BlockWaysModel" (97 : Nat) ({ cls := "BlockWaysModel", name := "nearest", desc := "([JI)I" } : Jvm.MethodName)) ∈ bwB := bw_in 445 (by rfl) (by rfl)
theorem hw_446 : (Jvm.Cond.static ({ cls := "BlockWaysModel", name := "nearest", desc := "([JI)I" } : Jvm.MethodName)) ∈ bwB := bw_in 446 (by rfl) (by rfl)
theorem hw_447 : (Jvm.Cond.code ({ cls := "BlockWaysModel", name := "nearest", desc := "([JI)I" } : Jvm.MethodName) prog_5_method_15_code (5 : Nat) (Option.some Jvm.ClassFile.FieldType.int)) ∈ bwB := bw_in 447 (by rfl) (by rfl)
theorem hw_448 : (Jvm.Cond.methodLink "BlockWaysLaw" (44 : Nat) ({ cls := "BlockWaysModel", name := "meeting", desc := "(I)I" } : Jvm.MethodName)) ∈ bwB := bw_in 448 (by rfl) (by rfl)
theorem hw_449 : (Jvm.Cond.instanceMethod ({ cls := "BlockWaysModel", name := "meeting", desc := "(I)I" } : Jvm.MethodName)) ∈ bwB := bw_in 449 (by rfl) (by rfl)
theorem hw_450 : (Jvm.Cond.selects "BlockWaysModel" ({ cls := "BlockWaysModel", name := "meeting", desc := "(I)I" } : Jvm.MethodName) ({ cls := "BlockWaysModel", name := "meeting", desc := "(I)I" } : Jvm.MethodName)) ∈ bwB := bw_in 450 (by rfl) (by rfl)
theorem hw_451 : (Jvm.Cond.code ({ cls := "BlockWaysModel", name := "meeting", desc := "(I)I" } : Jvm.MethodName) prog_5_method_19_code (2 : Nat) (Option.some Jvm.ClassFile.FieldType.int)) ∈ bwB := bw_in 451 (by rfl) (by rfl)
theorem hw_452 : (Jvm.Cond.methodLink "BlockWaysLaw" (49 : Nat) ({ cls := "BlockWaysModel", name := "set", desc := "(II)J" } : Jvm.MethodName)) ∈ bwB := bw_in 452 (by rfl) (by rfl)
theorem hw_453 : (Jvm.Cond.instanceMethod ({ cls := "BlockWaysModel", name := "set", desc := "(II)J" } : Jvm.MethodName)) ∈ bwB := bw_in 453 (by rfl) (by rfl)
theorem hw_454 : (Jvm.Cond.selects "BlockWaysModel" ({ cls := "BlockWaysModel", name := "set", desc := "(II)J" } : Jvm.MethodName) ({ cls := "BlockWaysModel", name := "set", desc := "(II)J" } : Jvm.MethodName)) ∈ bwB := bw_in 454 (by rfl) (by rfl)
theorem hw_455 : (Jvm.Cond.code ({ cls := "BlockWaysModel", name := "set", desc := "(II)J" } : Jvm.MethodName) prog_5_method_22_code (3 : Nat) (Option.some Jvm.ClassFile.FieldType.long)) ∈ bwB := bw_in 455 (by rfl) (by rfl)
theorem hw_456 : (Jvm.Cond.methodLink "BlockWaysModel" (101 : Nat) ({ cls := "BlockWaysModel", name := "hangsOn", desc := "(I)J" } : Jvm.MethodName)) ∈ bwB := bw_in 456 (by rfl) (by rfl)
theorem hw_458 : (Jvm.Cond.instanceMethod ({ cls := "BlockWaysModel", name := "hangsOn", desc := "(I)J" } : Jvm.MethodName)) ∈ bwB := bw_in 458 (by rfl) (by rfl)
theorem hw_459 : (Jvm.Cond.code ({ cls := "BlockWaysModel", name := "hangsOn", desc := "(I)J" } : Jvm.MethodName) prog_5_method_21_code (6 : Nat) (Option.some Jvm.ClassFile.FieldType.long)) ∈ bwB := bw_in 459 (by rfl) (by rfl)
theorem hw_460 : (Jvm.Cond.methodLink "BlockWaysModel" (104 : Nat) ({ cls := "BlockWaysModel", name := "under", desc := "(I)J" } : Jvm.MethodName)) ∈ bwB := bw_in 460 (by rfl) (by rfl)
theorem hw_462 : (Jvm.Cond.instanceMethod ({ cls := "BlockWaysModel", name := "under", desc := "(I)J" } : Jvm.MethodName)) ∈ bwB := bw_in 462 (by rfl) (by rfl)
theorem hw_463 : (Jvm.Cond.code ({ cls := "BlockWaysModel", name := "under", desc := "(I)J" } : Jvm.MethodName) prog_5_method_20_code (5 : Nat) (Option.some Jvm.ClassFile.FieldType.long)) ∈ bwB := bw_in 463 (by rfl) (by rfl)
theorem hw_464 : (Jvm.Cond.methodLink "BlockWaysLaw" (53 : Nat) ({ cls := "BlockWaysModel", name := "depth", desc := "(I)I" } : Jvm.MethodName)) ∈ bwB := bw_in 464 (by rfl) (by rfl)
theorem hw_465 : (Jvm.Cond.instanceMethod ({ cls := "BlockWaysModel", name := "depth", desc := "(I)I" } : Jvm.MethodName)) ∈ bwB := bw_in 465 (by rfl) (by rfl)
theorem hw_466 : (Jvm.Cond.selects "BlockWaysModel" ({ cls := "BlockWaysModel", name := "depth", desc := "(I)I" } : Jvm.MethodName) ({ cls := "BlockWaysModel", name := "depth", desc := "(I)I" } : Jvm.MethodName)) ∈ bwB := bw_in 466 (by rfl) (by rfl)
theorem hw_467 : (Jvm.Cond.code ({ cls := "BlockWaysModel", name := "depth", desc := "(I)I" } : Jvm.MethodName) prog_5_method_23_code (2 : Nat) (Option.some Jvm.ClassFile.FieldType.int)) ∈ bwB := bw_in 467 (by rfl) (by rfl)
theorem hw_468 : (Jvm.Cond.methodLink "BlockWaysLaw" (59 : Nat) ({ cls := "BlockWaysModel", name := "inner", desc := "(I)I" } : Jvm.MethodName)) ∈ bwB := bw_in 468 (by rfl) (by rfl)
theorem hw_469 : (Jvm.Cond.instanceMethod ({ cls := "BlockWaysModel", name := "inner", desc := "(I)I" } : Jvm.MethodName)) ∈ bwB := bw_in 469 (by rfl) (by rfl)
theorem hw_470 : (Jvm.Cond.selects "BlockWaysModel" ({ cls := "BlockWaysModel", name := "inner", desc := "(I)I" } : Jvm.MethodName) ({ cls := "BlockWaysModel", name := "inner", desc := "(I)I" } : Jvm.MethodName)) ∈ bwB := bw_in 470 (by rfl) (by rfl)
theorem hw_471 : (Jvm.Cond.code ({ cls := "BlockWaysModel", name := "inner", desc := "(I)I" } : Jvm.MethodName) prog_5_method_24_code (4 : Nat) (Option.some Jvm.ClassFile.FieldType.int)) ∈ bwB := bw_in 471 (by rfl) (by rfl)
theorem hw_472 : (Jvm.Cond.methodLink "BlockWaysLaw" (70 : Nat) ({ cls := "BlockWaysModel", name := "joins", desc := "(J)J" } : Jvm.MethodName)) ∈ bwB := bw_in 472 (by rfl) (by rfl)
theorem hw_473 : (Jvm.Cond.instanceMethod ({ cls := "BlockWaysModel", name := "joins", desc := "(J)J" } : Jvm.MethodName)) ∈ bwB := bw_in 473 (by rfl) (by rfl)
theorem hw_474 : (Jvm.Cond.selects "BlockWaysModel" ({ cls := "BlockWaysModel", name := "joins", desc := "(J)J" } : Jvm.MethodName) ({ cls := "BlockWaysModel", name := "joins", desc := "(J)J" } : Jvm.MethodName)) ∈ bwB := bw_in 474 (by rfl) (by rfl)
theorem hw_475 : (Jvm.Cond.code ({ cls := "BlockWaysModel", name := "joins", desc := "(J)J" } : Jvm.MethodName) prog_5_method_25_code (9 : Nat) (Option.some Jvm.ClassFile.FieldType.long)) ∈ bwB := bw_in 475 (by rfl) (by rfl)
theorem hw_476 : (Jvm.Cond.constantLong "BlockWaysLaw" (64 : Nat) (4294967295 : Int64)) ∈ bwB := bw_in 476 (by rfl) (by rfl)
theorem hw_0 : Jvm.Cond.selects "BlockWays" ⟨"BlockWays", "forgetAnswers", "()V"⟩ ⟨"BlockWays", "forgetAnswers", "()V"⟩ ∈ bwB := bw_in 0 (by rfl) (by rfl)
theorem hw_1 : Jvm.Cond.selects "BlockWays" ⟨"BlockWays", "isTold", "(I)Z"⟩ ⟨"BlockWays", "isTold", "(I)Z"⟩ ∈ bwB := bw_in 1 (by rfl) (by rfl)
theorem hw_2 : Jvm.Cond.selects "BlockWays" ⟨"BlockWays", "freshOnward", "()LBlockWays$Spread;"⟩ ⟨"BlockWays", "freshOnward", "()LBlockWays$Spread;"⟩ ∈ bwB := bw_in 2 (by rfl) (by rfl)
theorem hw_3 : Jvm.Cond.selects "BlockWays" ⟨"BlockWays", "renewOnward", "()V"⟩ ⟨"BlockWays", "renewOnward", "()V"⟩ ∈ bwB := bw_in 3 (by rfl) (by rfl)
theorem hw_4 : Jvm.Cond.selects "BlockWays" ⟨"BlockWays", "freshBackward", "()LBlockWays$Spread;"⟩ ⟨"BlockWays", "freshBackward", "()LBlockWays$Spread;"⟩ ∈ bwB := bw_in 4 (by rfl) (by rfl)
theorem hw_5 : Jvm.Cond.selects "BlockWays" ⟨"BlockWays", "ends", "()J"⟩ ⟨"BlockWays", "ends", "()J"⟩ ∈ bwB := bw_in 5 (by rfl) (by rfl)
theorem hw_6 : Jvm.Cond.selects "BlockWays" ⟨"BlockWays", "freshRounds", "()LBlockWays$Rounds;"⟩ ⟨"BlockWays", "freshRounds", "()LBlockWays$Rounds;"⟩ ∈ bwB := bw_in 6 (by rfl) (by rfl)
theorem hw_7 : Jvm.Cond.selects "BlockWays" ⟨"BlockWays", "isPlain", "()Z"⟩ ⟨"BlockWays", "isPlain", "()Z"⟩ ∈ bwB := bw_in 7 (by rfl) (by rfl)
theorem hw_9 : Jvm.Cond.selects "BlockWaysModel" ⟨"BlockWaysModel", "look", "()V"⟩ ⟨"BlockWaysModel", "look", "()V"⟩ ∈ bwB := bw_in 9 (by rfl) (by rfl)
theorem hw_10 : Jvm.Cond.selects "BlockWaysModel" ⟨"BlockWaysModel", "comeTo", "(I)J"⟩ ⟨"BlockWaysModel", "comeTo", "(I)J"⟩ ∈ bwB := bw_in 10 (by rfl) (by rfl)
theorem hw_11 : Jvm.Cond.selects "BlockWaysModel" ⟨"BlockWaysModel", "leadTo", "(JI)J"⟩ ⟨"BlockWaysModel", "leadTo", "(JI)J"⟩ ∈ bwB := bw_in 11 (by rfl) (by rfl)
theorem hw_12 : Jvm.Cond.selects "BlockWaysModel" ⟨"BlockWaysModel", "lookAtRounds", "()V"⟩ ⟨"BlockWaysModel", "lookAtRounds", "()V"⟩ ∈ bwB := bw_in 12 (by rfl) (by rfl)
theorem hw_13 : Jvm.Cond.selects "BlockWaysModel" ⟨"BlockWaysModel", "lookAtEdges", "()V"⟩ ⟨"BlockWaysModel", "lookAtEdges", "()V"⟩ ∈ bwB := bw_in 13 (by rfl) (by rfl)
theorem hw_14 : Jvm.Cond.selects "BlockWaysModel" ⟨"BlockWaysModel", "in", "(I)I"⟩ ⟨"BlockWaysModel", "in", "(I)I"⟩ ∈ bwB := bw_in 14 (by rfl) (by rfl)
theorem hw_15 : Jvm.Cond.selects "BlockWaysModel" ⟨"BlockWaysModel", "hangsOn", "(I)J"⟩ ⟨"BlockWaysModel", "hangsOn", "(I)J"⟩ ∈ bwB := bw_in 15 (by rfl) (by rfl)
theorem hw_16 : Jvm.Cond.selects "BlockWaysModel" ⟨"BlockWaysModel", "under", "(I)J"⟩ ⟨"BlockWaysModel", "under", "(I)J"⟩ ∈ bwB := bw_in 16 (by rfl) (by rfl)
theorem inR : ∀ w ∈ u_ws RR TR 1, w ∈ bwB := by
  show ∀ w ∈ [u_lay RR TR 0], w ∈ bwB
  exact bw_gt_ hw_61 (bw_gn)
theorem inS : ∀ w ∈ u_ws RS TS 3, w ∈ bwB := by
  show ∀ w ∈ [u_lay RS TS 0, u_lay RS TS 1, u_lay RS TS 2], w ∈ bwB
  exact bw_gt_ hw_45 (bw_gt_ hw_47 (bw_gt_ hw_49 (bw_gn)))
theorem inB : ∀ w ∈ u_ws RB TB 7, w ∈ bwB := by
  show ∀ w ∈ [u_lay RB TB 0, u_lay RB TB 1, u_lay RB TB 2, u_lay RB TB 3, u_lay RB TB 4, u_lay RB TB 5, u_lay RB TB 6], w ∈ bwB
  exact bw_gt_ hw_71 (bw_gt_ hw_73 (bw_gt_ hw_75 (bw_gt_ hw_77 (bw_gt_ hw_79 (bw_gt_ hw_81 (bw_gt_ hw_83 (bw_gn)))))))
theorem inM : ∀ w ∈ u_ws RM TM 15, w ∈ bwB := by
  show ∀ w ∈ [u_lay RM TM 0, u_lay RM TM 1, u_lay RM TM 2, u_lay RM TM 3, u_lay RM TM 4, u_lay RM TM 5, u_lay RM TM 6, u_lay RM TM 7, u_lay RM TM 8, u_lay RM TM 9, u_lay RM TM 10, u_lay RM TM 11, u_lay RM TM 12, u_lay RM TM 13, u_lay RM TM 14], w ∈ bwB
  exact bw_gt_ hw_353 (bw_gt_ hw_355 (bw_gt_ hw_357 (bw_gt_ hw_359 (bw_gt_ hw_361 (bw_gt_ hw_363 (bw_gt_ hw_365 (bw_gt_ hw_367 (bw_gt_ hw_369 (bw_gt_ hw_371 (bw_gt_ hw_373 (bw_gt_ hw_375 (bw_gt_ hw_377 (bw_gt_ hw_379 (bw_gt_ hw_381 (bw_gn)))))))))))))))
end
section
theorem dB_init_0 : decode cB_init 0 = .ok (.aload_n 0, 1) := by decide +kernel
theorem dB_init_1 : decode cB_init 1 = .ok (.invokespecial 1, 3) := by decide +kernel
theorem dB_init_4 : decode cB_init 4 = .ok (.aload_n 0, 1) := by decide +kernel
theorem dB_init_5 : decode cB_init 5 = .ok (.lconst 0, 1) := by decide +kernel
theorem dB_init_6 : decode cB_init 6 = .ok (.putfield 7, 3) := by decide +kernel
theorem dB_init_9 : decode cB_init 9 = .ok (.aload_n 0, 1) := by decide +kernel
theorem dB_init_10 : decode cB_init 10 = .ok (.bipush 40, 2) := by decide +kernel
theorem dB_init_12 : decode cB_init 12 = .ok (.newarray .int, 2) := by decide +kernel
theorem dB_init_14 : decode cB_init 14 = .ok (.putfield 13, 3) := by decide +kernel
theorem dB_init_17 : decode cB_init 17 = .ok (.aload_n 0, 1) := by decide +kernel
theorem dB_init_18 : decode cB_init 18 = .ok (.new 17, 3) := by decide +kernel
theorem dB_init_21 : decode cB_init 21 = .ok (.dup, 1) := by decide +kernel
theorem dB_init_22 : decode cB_init 22 = .ok (.invokespecial 19, 3) := by decide +kernel
theorem dB_init_25 : decode cB_init 25 = .ok (.putfield 20, 3) := by decide +kernel
theorem dB_init_28 : decode cB_init 28 = .ok (.aload_n 0, 1) := by decide +kernel
theorem dB_init_29 : decode cB_init 29 = .ok (.new 17, 3) := by decide +kernel
theorem dB_init_32 : decode cB_init 32 = .ok (.dup, 1) := by decide +kernel
theorem dB_init_33 : decode cB_init 33 = .ok (.invokespecial 19, 3) := by decide +kernel
theorem dB_init_36 : decode cB_init 36 = .ok (.putfield 24, 3) := by decide +kernel
theorem dB_init_39 : decode cB_init 39 = .ok (.aload_n 0, 1) := by decide +kernel
theorem dB_init_40 : decode cB_init 40 = .ok (.new 27, 3) := by decide +kernel
theorem dB_init_43 : decode cB_init 43 = .ok (.dup, 1) := by decide +kernel
theorem dB_init_44 : decode cB_init 44 = .ok (.invokespecial 29, 3) := by decide +kernel
theorem dB_init_47 : decode cB_init 47 = .ok (.putfield 30, 3) := by decide +kernel
theorem dB_init_50 : decode cB_init 50 = .ok (.aload_n 0, 1) := by decide +kernel
theorem dB_init_51 : decode cB_init 51 = .ok (.iconst 0, 1) := by decide +kernel
theorem dB_init_52 : decode cB_init 52 = .ok (.putfield 34, 3) := by decide +kernel
theorem dB_init_55 : decode cB_init 55 = .ok (.aload_n 0, 1) := by decide +kernel
theorem dB_init_56 : decode cB_init 56 = .ok (.iconst 0, 1) := by decide +kernel
theorem dB_init_57 : decode cB_init 57 = .ok (.putfield 38, 3) := by decide +kernel
theorem dB_init_60 : decode cB_init 60 = .ok (.return_, 1) := by decide +kernel
theorem dS_init_0 : decode cS_init 0 = .ok (.aload_n 0, 1) := by decide +kernel
theorem dS_init_1 : decode cS_init 1 = .ok (.invokespecial 3, 3) := by decide +kernel
theorem dS_init_4 : decode cS_init 4 = .ok (.aload_n 0, 1) := by decide +kernel
theorem dS_init_5 : decode cS_init 5 = .ok (.bipush 40, 2) := by decide +kernel
theorem dS_init_7 : decode cS_init 7 = .ok (.newarray .long, 2) := by decide +kernel
theorem dS_init_9 : decode cS_init 9 = .ok (.putfield 9, 3) := by decide +kernel
theorem dS_init_12 : decode cS_init 12 = .ok (.aload_n 0, 1) := by decide +kernel
theorem dS_init_13 : decode cS_init 13 = .ok (.bipush 40, 2) := by decide +kernel
theorem dS_init_15 : decode cS_init 15 = .ok (.newarray .long, 2) := by decide +kernel
theorem dS_init_17 : decode cS_init 17 = .ok (.putfield 15, 3) := by decide +kernel
theorem dS_init_20 : decode cS_init 20 = .ok (.aload_n 0, 1) := by decide +kernel
theorem dS_init_21 : decode cS_init 21 = .ok (.lconst 0, 1) := by decide +kernel
theorem dS_init_22 : decode cS_init 22 = .ok (.putfield 18, 3) := by decide +kernel
theorem dS_init_25 : decode cS_init 25 = .ok (.return_, 1) := by decide +kernel
theorem dR_init_0 : decode cR_init 0 = .ok (.aload_n 0, 1) := by decide +kernel
theorem dR_init_1 : decode cR_init 1 = .ok (.invokespecial 3, 3) := by decide +kernel
theorem dR_init_4 : decode cR_init 4 = .ok (.aload_n 0, 1) := by decide +kernel
theorem dR_init_5 : decode cR_init 5 = .ok (.bipush 40, 2) := by decide +kernel
theorem dR_init_7 : decode cR_init 7 = .ok (.newarray .long, 2) := by decide +kernel
theorem dR_init_9 : decode cR_init 9 = .ok (.putfield 9, 3) := by decide +kernel
theorem dR_init_12 : decode cR_init 12 = .ok (.return_, 1) := by decide +kernel
theorem dB_block_0 : decode cB_block 0 = .ok (.iload_n 1, 1) := by decide +kernel
theorem dB_block_1 : decode cB_block 1 = .ok (.invokestatic 41, 3) := by decide +kernel
theorem dB_block_4 : decode cB_block 4 = .ok (.ifCond .eq 14, 3) := by decide +kernel
theorem dB_block_7 : decode cB_block 7 = .ok (.aload_n 0, 1) := by decide +kernel
theorem dB_block_8 : decode cB_block 8 = .ok (.getfield 7, 3) := by decide +kernel
theorem dB_block_11 : decode cB_block 11 = .ok (.iload_n 1, 1) := by decide +kernel
theorem dB_block_12 : decode cB_block 12 = .ok (.invokestatic 45, 3) := by decide +kernel
theorem dB_block_15 : decode cB_block 15 = .ok (.ifCond .eq 5, 3) := by decide +kernel
theorem dB_block_18 : decode cB_block 18 = .ok (.iconst 0, 1) := by decide +kernel
theorem dB_block_19 : decode cB_block 19 = .ok (.ireturn, 1) := by decide +kernel
theorem dB_block_20 : decode cB_block 20 = .ok (.aload_n 0, 1) := by decide +kernel
theorem dB_block_21 : decode cB_block 21 = .ok (.dup, 1) := by decide +kernel
theorem dB_block_22 : decode cB_block 22 = .ok (.getfield 7, 3) := by decide +kernel
theorem dB_block_25 : decode cB_block 25 = .ok (.iload_n 1, 1) := by decide +kernel
theorem dB_block_26 : decode cB_block 26 = .ok (.invokestatic 49, 3) := by decide +kernel
theorem dB_block_29 : decode cB_block 29 = .ok (.lor, 1) := by decide +kernel
theorem dB_block_30 : decode cB_block 30 = .ok (.putfield 7, 3) := by decide +kernel
theorem dB_block_33 : decode cB_block 33 = .ok (.aload_n 0, 1) := by decide +kernel
theorem dB_block_34 : decode cB_block 34 = .ok (.invokevirtual 53, 3) := by decide +kernel
theorem dB_block_37 : decode cB_block 37 = .ok (.iconst 1, 1) := by decide +kernel
theorem dB_block_38 : decode cB_block 38 = .ok (.ireturn, 1) := by decide +kernel
theorem dB_isBlock_0 : decode cB_isBlock 0 = .ok (.iload_n 0, 1) := by decide +kernel
theorem dB_isBlock_1 : decode cB_isBlock 1 = .ok (.ifCond .lt 13, 3) := by decide +kernel
theorem dB_isBlock_4 : decode cB_isBlock 4 = .ok (.iload_n 0, 1) := by decide +kernel
theorem dB_isBlock_5 : decode cB_isBlock 5 = .ok (.bipush 40, 2) := by decide +kernel
theorem dB_isBlock_7 : decode cB_isBlock 7 = .ok (.if_icmp .ge 7, 3) := by decide +kernel
theorem dB_isBlock_10 : decode cB_isBlock 10 = .ok (.iconst 1, 1) := by decide +kernel
theorem dB_isBlock_11 : decode cB_isBlock 11 = .ok (.goto 4, 3) := by decide +kernel
theorem dB_isBlock_14 : decode cB_isBlock 14 = .ok (.iconst 0, 1) := by decide +kernel
theorem dB_isBlock_15 : decode cB_isBlock 15 = .ok (.ireturn, 1) := by decide +kernel
theorem dB_has_0 : decode cB_has 0 = .ok (.lload_n 0, 1) := by decide +kernel
theorem dB_has_1 : decode cB_has 1 = .ok (.iload_n 2, 1) := by decide +kernel
theorem dB_has_2 : decode cB_has 2 = .ok (.invokestatic 49, 3) := by decide +kernel
theorem dB_has_5 : decode cB_has 5 = .ok (.land, 1) := by decide +kernel
theorem dB_has_6 : decode cB_has 6 = .ok (.lconst 0, 1) := by decide +kernel
theorem dB_has_7 : decode cB_has 7 = .ok (.lcmp, 1) := by decide +kernel
theorem dB_has_8 : decode cB_has 8 = .ok (.ifCond .eq 7, 3) := by decide +kernel
theorem dB_has_11 : decode cB_has 11 = .ok (.iconst 1, 1) := by decide +kernel
theorem dB_has_12 : decode cB_has 12 = .ok (.goto 4, 3) := by decide +kernel
theorem dB_has_15 : decode cB_has 15 = .ok (.iconst 0, 1) := by decide +kernel
theorem dB_has_16 : decode cB_has 16 = .ok (.ireturn, 1) := by decide +kernel
theorem dB_bit_0 : decode cB_bit 0 = .ok (.lconst 1, 1) := by decide +kernel
theorem dB_bit_1 : decode cB_bit 1 = .ok (.iload_n 0, 1) := by decide +kernel
theorem dB_bit_2 : decode cB_bit 2 = .ok (.lshl, 1) := by decide +kernel
theorem dB_bit_3 : decode cB_bit 3 = .ok (.lreturn, 1) := by decide +kernel
theorem dB_forgetAnswers_0 : decode cB_forgetAnswers 0 = .ok (.aload_n 0, 1) := by decide +kernel
theorem dB_forgetAnswers_1 : decode cB_forgetAnswers 1 = .ok (.iconst 1, 1) := by decide +kernel
theorem dB_forgetAnswers_2 : decode cB_forgetAnswers 2 = .ok (.putfield 34, 3) := by decide +kernel
theorem dB_forgetAnswers_5 : decode cB_forgetAnswers 5 = .ok (.aload_n 0, 1) := by decide +kernel
theorem dB_forgetAnswers_6 : decode cB_forgetAnswers 6 = .ok (.iconst 1, 1) := by decide +kernel
theorem dB_forgetAnswers_7 : decode cB_forgetAnswers 7 = .ok (.putfield 38, 3) := by decide +kernel
theorem dB_forgetAnswers_10 : decode cB_forgetAnswers 10 = .ok (.return_, 1) := by decide +kernel
theorem dB_target_0 : decode cB_target 0 = .ok (.aload_n 0, 1) := by decide +kernel
theorem dB_target_1 : decode cB_target 1 = .ok (.iload_n 1, 1) := by decide +kernel
theorem dB_target_2 : decode cB_target 2 = .ok (.invokevirtual 56, 3) := by decide +kernel
theorem dB_target_5 : decode cB_target 5 = .ok (.ifCond .eq 20, 3) := by decide +kernel
theorem dB_target_8 : decode cB_target 8 = .ok (.iload_n 2, 1) := by decide +kernel
theorem dB_target_9 : decode cB_target 9 = .ok (.invokestatic 41, 3) := by decide +kernel
theorem dB_target_12 : decode cB_target 12 = .ok (.ifCond .eq 13, 3) := by decide +kernel
theorem dB_target_15 : decode cB_target 15 = .ok (.aload_n 0, 1) := by decide +kernel
theorem dB_target_16 : decode cB_target 16 = .ok (.getfield 13, 3) := by decide +kernel
theorem dB_target_19 : decode cB_target 19 = .ok (.iload_n 1, 1) := by decide +kernel
theorem dB_target_20 : decode cB_target 20 = .ok (.iaload, 1) := by decide +kernel
theorem dB_target_21 : decode cB_target 21 = .ok (.iconst 4, 1) := by decide +kernel
theorem dB_target_22 : decode cB_target 22 = .ok (.if_icmp .lt 5, 3) := by decide +kernel
theorem dB_target_25 : decode cB_target 25 = .ok (.iconst 0, 1) := by decide +kernel
theorem dB_target_26 : decode cB_target 26 = .ok (.ireturn, 1) := by decide +kernel
theorem dB_target_27 : decode cB_target 27 = .ok (.aload_n 0, 1) := by decide +kernel
theorem dB_target_28 : decode cB_target 28 = .ok (.getfield 13, 3) := by decide +kernel
theorem dB_target_31 : decode cB_target 31 = .ok (.iload_n 1, 1) := by decide +kernel
theorem dB_target_32 : decode cB_target 32 = .ok (.dup2, 1) := by decide +kernel
theorem dB_target_33 : decode cB_target 33 = .ok (.iaload, 1) := by decide +kernel
theorem dB_target_34 : decode cB_target 34 = .ok (.iconst 1, 1) := by decide +kernel
theorem dB_target_35 : decode cB_target 35 = .ok (.iadd, 1) := by decide +kernel
theorem dB_target_36 : decode cB_target 36 = .ok (.iastore, 1) := by decide +kernel
theorem dB_target_37 : decode cB_target 37 = .ok (.aload_n 0, 1) := by decide +kernel
theorem dB_target_38 : decode cB_target 38 = .ok (.getfield 20, 3) := by decide +kernel
theorem dB_target_41 : decode cB_target 41 = .ok (.iload_n 1, 1) := by decide +kernel
theorem dB_target_42 : decode cB_target 42 = .ok (.iload_n 2, 1) := by decide +kernel
theorem dB_target_43 : decode cB_target 43 = .ok (.invokevirtual 59, 3) := by decide +kernel
theorem dB_target_46 : decode cB_target 46 = .ok (.aload_n 0, 1) := by decide +kernel
theorem dB_target_47 : decode cB_target 47 = .ok (.getfield 24, 3) := by decide +kernel
theorem dB_target_50 : decode cB_target 50 = .ok (.iload_n 2, 1) := by decide +kernel
theorem dB_target_51 : decode cB_target 51 = .ok (.iload_n 1, 1) := by decide +kernel
theorem dB_target_52 : decode cB_target 52 = .ok (.invokevirtual 59, 3) := by decide +kernel
theorem dB_target_55 : decode cB_target 55 = .ok (.aload_n 0, 1) := by decide +kernel
theorem dB_target_56 : decode cB_target 56 = .ok (.invokevirtual 53, 3) := by decide +kernel
theorem dB_target_59 : decode cB_target 59 = .ok (.iconst 1, 1) := by decide +kernel
theorem dB_target_60 : decode cB_target 60 = .ok (.ireturn, 1) := by decide +kernel
theorem dB_isTold_0 : decode cB_isTold 0 = .ok (.iload_n 1, 1) := by decide +kernel
theorem dB_isTold_1 : decode cB_isTold 1 = .ok (.invokestatic 41, 3) := by decide +kernel
theorem dB_isTold_4 : decode cB_isTold 4 = .ok (.ifCond .eq 18, 3) := by decide +kernel
theorem dB_isTold_7 : decode cB_isTold 7 = .ok (.aload_n 0, 1) := by decide +kernel
theorem dB_isTold_8 : decode cB_isTold 8 = .ok (.getfield 7, 3) := by decide +kernel
theorem dB_isTold_11 : decode cB_isTold 11 = .ok (.iload_n 1, 1) := by decide +kernel
theorem dB_isTold_12 : decode cB_isTold 12 = .ok (.invokestatic 45, 3) := by decide +kernel
theorem dB_isTold_15 : decode cB_isTold 15 = .ok (.ifCond .eq 7, 3) := by decide +kernel
theorem dB_isTold_18 : decode cB_isTold 18 = .ok (.iconst 1, 1) := by decide +kernel
theorem dB_isTold_19 : decode cB_isTold 19 = .ok (.goto 4, 3) := by decide +kernel
theorem dB_isTold_22 : decode cB_isTold 22 = .ok (.iconst 0, 1) := by decide +kernel
theorem dB_isTold_23 : decode cB_isTold 23 = .ok (.ireturn, 1) := by decide +kernel
theorem dS_addStep_0 : decode cS_addStep 0 = .ok (.aload_n 0, 1) := by decide +kernel
theorem dS_addStep_1 : decode cS_addStep 1 = .ok (.getfield 9, 3) := by decide +kernel
theorem dS_addStep_4 : decode cS_addStep 4 = .ok (.iload_n 1, 1) := by decide +kernel
theorem dS_addStep_5 : decode cS_addStep 5 = .ok (.dup2, 1) := by decide +kernel
theorem dS_addStep_6 : decode cS_addStep 6 = .ok (.laload, 1) := by decide +kernel
theorem dS_addStep_7 : decode cS_addStep 7 = .ok (.iload_n 2, 1) := by decide +kernel
theorem dS_addStep_8 : decode cS_addStep 8 = .ok (.invokestatic 22, 3) := by decide +kernel
theorem dS_addStep_11 : decode cS_addStep 11 = .ok (.lor, 1) := by decide +kernel
theorem dS_addStep_12 : decode cS_addStep 12 = .ok (.lastore, 1) := by decide +kernel
theorem dS_addStep_13 : decode cS_addStep 13 = .ok (.return_, 1) := by decide +kernel
theorem dB_drop_0 : decode cB_drop 0 = .ok (.aload_n 0, 1) := by decide +kernel
theorem dB_drop_1 : decode cB_drop 1 = .ok (.iload_n 1, 1) := by decide +kernel
theorem dB_drop_2 : decode cB_drop 2 = .ok (.invokevirtual 56, 3) := by decide +kernel
theorem dB_drop_5 : decode cB_drop 5 = .ok (.ifCond .ne 5, 3) := by decide +kernel
theorem dB_drop_8 : decode cB_drop 8 = .ok (.iconst 0, 1) := by decide +kernel
theorem dB_drop_9 : decode cB_drop 9 = .ok (.ireturn, 1) := by decide +kernel
theorem dB_drop_10 : decode cB_drop 10 = .ok (.aload_n 0, 1) := by decide +kernel
theorem dB_drop_11 : decode cB_drop 11 = .ok (.dup, 1) := by decide +kernel
theorem dB_drop_12 : decode cB_drop 12 = .ok (.getfield 7, 3) := by decide +kernel
theorem dB_drop_15 : decode cB_drop 15 = .ok (.iload_n 1, 1) := by decide +kernel
theorem dB_drop_16 : decode cB_drop 16 = .ok (.invokestatic 49, 3) := by decide +kernel
theorem dB_drop_19 : decode cB_drop 19 = .ok (.ldc2_w 63, 3) := by decide +kernel
theorem dB_drop_22 : decode cB_drop 22 = .ok (.lxor, 1) := by decide +kernel
theorem dB_drop_23 : decode cB_drop 23 = .ok (.land, 1) := by decide +kernel
theorem dB_drop_24 : decode cB_drop 24 = .ok (.putfield 7, 3) := by decide +kernel
theorem dB_drop_27 : decode cB_drop 27 = .ok (.aload_n 0, 1) := by decide +kernel
theorem dB_drop_28 : decode cB_drop 28 = .ok (.getfield 13, 3) := by decide +kernel
theorem dB_drop_31 : decode cB_drop 31 = .ok (.iload_n 1, 1) := by decide +kernel
theorem dB_drop_32 : decode cB_drop 32 = .ok (.iconst 0, 1) := by decide +kernel
theorem dB_drop_33 : decode cB_drop 33 = .ok (.iastore, 1) := by decide +kernel
theorem dB_drop_34 : decode cB_drop 34 = .ok (.aload_n 0, 1) := by decide +kernel
theorem dB_drop_35 : decode cB_drop 35 = .ok (.getfield 20, 3) := by decide +kernel
theorem dB_drop_38 : decode cB_drop 38 = .ok (.iload_n 1, 1) := by decide +kernel
theorem dB_drop_39 : decode cB_drop 39 = .ok (.invokevirtual 65, 3) := by decide +kernel
theorem dB_drop_42 : decode cB_drop 42 = .ok (.aload_n 0, 1) := by decide +kernel
theorem dB_drop_43 : decode cB_drop 43 = .ok (.getfield 24, 3) := by decide +kernel
theorem dB_drop_46 : decode cB_drop 46 = .ok (.iload_n 1, 1) := by decide +kernel
theorem dB_drop_47 : decode cB_drop 47 = .ok (.invokevirtual 69, 3) := by decide +kernel
theorem dB_drop_50 : decode cB_drop 50 = .ok (.aload_n 0, 1) := by decide +kernel
theorem dB_drop_51 : decode cB_drop 51 = .ok (.invokevirtual 53, 3) := by decide +kernel
theorem dB_drop_54 : decode cB_drop 54 = .ok (.iconst 1, 1) := by decide +kernel
theorem dB_drop_55 : decode cB_drop 55 = .ok (.ireturn, 1) := by decide +kernel
theorem dS_removeStepsFrom_0 : decode cS_removeStepsFrom 0 = .ok (.aload_n 0, 1) := by decide +kernel
theorem dS_removeStepsFrom_1 : decode cS_removeStepsFrom 1 = .ok (.getfield 9, 3) := by decide +kernel
theorem dS_removeStepsFrom_4 : decode cS_removeStepsFrom 4 = .ok (.iload_n 1, 1) := by decide +kernel
theorem dS_removeStepsFrom_5 : decode cS_removeStepsFrom 5 = .ok (.lconst 0, 1) := by decide +kernel
theorem dS_removeStepsFrom_6 : decode cS_removeStepsFrom 6 = .ok (.lastore, 1) := by decide +kernel
theorem dS_removeStepsFrom_7 : decode cS_removeStepsFrom 7 = .ok (.return_, 1) := by decide +kernel
theorem dS_removeStepsTo_0 : decode cS_removeStepsTo 0 = .ok (.iconst 0, 1) := by decide +kernel
theorem dS_removeStepsTo_1 : decode cS_removeStepsTo 1 = .ok (.istore_n 2, 1) := by decide +kernel
theorem dS_removeStepsTo_2 : decode cS_removeStepsTo 2 = .ok (.iload_n 2, 1) := by decide +kernel
theorem dS_removeStepsTo_3 : decode cS_removeStepsTo 3 = .ok (.bipush 40, 2) := by decide +kernel
theorem dS_removeStepsTo_5 : decode cS_removeStepsTo 5 = .ok (.if_icmp .ge 26, 3) := by decide +kernel
theorem dS_removeStepsTo_8 : decode cS_removeStepsTo 8 = .ok (.aload_n 0, 1) := by decide +kernel
theorem dS_removeStepsTo_9 : decode cS_removeStepsTo 9 = .ok (.getfield 9, 3) := by decide +kernel
theorem dS_removeStepsTo_12 : decode cS_removeStepsTo 12 = .ok (.iload_n 2, 1) := by decide +kernel
theorem dS_removeStepsTo_13 : decode cS_removeStepsTo 13 = .ok (.dup2, 1) := by decide +kernel
theorem dS_removeStepsTo_14 : decode cS_removeStepsTo 14 = .ok (.laload, 1) := by decide +kernel
theorem dS_removeStepsTo_15 : decode cS_removeStepsTo 15 = .ok (.iload_n 1, 1) := by decide +kernel
theorem dS_removeStepsTo_16 : decode cS_removeStepsTo 16 = .ok (.invokestatic 22, 3) := by decide +kernel
theorem dS_removeStepsTo_19 : decode cS_removeStepsTo 19 = .ok (.ldc2_w 26, 3) := by decide +kernel
theorem dS_removeStepsTo_22 : decode cS_removeStepsTo 22 = .ok (.lxor, 1) := by decide +kernel
theorem dS_removeStepsTo_23 : decode cS_removeStepsTo 23 = .ok (.land, 1) := by decide +kernel
theorem dS_removeStepsTo_24 : decode cS_removeStepsTo 24 = .ok (.lastore, 1) := by decide +kernel
theorem dS_removeStepsTo_25 : decode cS_removeStepsTo 25 = .ok (.iinc 2 1, 3) := by decide +kernel
theorem dS_removeStepsTo_28 : decode cS_removeStepsTo 28 = .ok (.goto (-26), 3) := by decide +kernel
theorem dS_removeStepsTo_31 : decode cS_removeStepsTo 31 = .ok (.return_, 1) := by decide +kernel
theorem dB_count_0 : decode cB_count 0 = .ok (.iload_n 1, 1) := by decide +kernel
theorem dB_count_1 : decode cB_count 1 = .ok (.tableswitch 98 0 5 #[39, 47, 58, 69, 77, 85], 39) := by decide +kernel
theorem dB_count_40 : decode cB_count 40 = .ok (.aload_n 0, 1) := by decide +kernel
theorem dB_count_41 : decode cB_count 41 = .ok (.getfield 7, 3) := by decide +kernel
theorem dB_count_44 : decode cB_count 44 = .ok (.invokestatic 72, 3) := by decide +kernel
theorem dB_count_47 : decode cB_count 47 = .ok (.ireturn, 1) := by decide +kernel
theorem dB_count_48 : decode cB_count 48 = .ok (.aload_n 0, 1) := by decide +kernel
theorem dB_count_49 : decode cB_count 49 = .ok (.invokevirtual 78, 3) := by decide +kernel
theorem dB_count_52 : decode cB_count 52 = .ok (.invokevirtual 82, 3) := by decide +kernel
theorem dB_count_55 : decode cB_count 55 = .ok (.invokestatic 72, 3) := by decide +kernel
theorem dB_count_58 : decode cB_count 58 = .ok (.ireturn, 1) := by decide +kernel
theorem dB_count_59 : decode cB_count 59 = .ok (.aload_n 0, 1) := by decide +kernel
theorem dB_count_60 : decode cB_count 60 = .ok (.invokevirtual 86, 3) := by decide +kernel
theorem dB_count_63 : decode cB_count 63 = .ok (.invokevirtual 82, 3) := by decide +kernel
theorem dB_count_66 : decode cB_count 66 = .ok (.invokestatic 72, 3) := by decide +kernel
theorem dB_count_69 : decode cB_count 69 = .ok (.ireturn, 1) := by decide +kernel
theorem dB_count_70 : decode cB_count 70 = .ok (.aload_n 0, 1) := by decide +kernel
theorem dB_count_71 : decode cB_count 71 = .ok (.invokevirtual 89, 3) := by decide +kernel
theorem dB_count_74 : decode cB_count 74 = .ok (.invokevirtual 93, 3) := by decide +kernel
theorem dB_count_77 : decode cB_count 77 = .ok (.ireturn, 1) := by decide +kernel
theorem dB_count_78 : decode cB_count 78 = .ok (.aload_n 0, 1) := by decide +kernel
theorem dB_count_79 : decode cB_count 79 = .ok (.invokevirtual 89, 3) := by decide +kernel
theorem dB_count_82 : decode cB_count 82 = .ok (.invokevirtual 97, 3) := by decide +kernel
theorem dB_count_85 : decode cB_count 85 = .ok (.ireturn, 1) := by decide +kernel
theorem dB_count_86 : decode cB_count 86 = .ok (.aload_n 0, 1) := by decide +kernel
theorem dB_count_87 : decode cB_count 87 = .ok (.invokevirtual 100, 3) := by decide +kernel
theorem dB_count_90 : decode cB_count 90 = .ok (.ifCond .eq 7, 3) := by decide +kernel
theorem dB_count_93 : decode cB_count 93 = .ok (.iconst 1, 1) := by decide +kernel
theorem dB_count_94 : decode cB_count 94 = .ok (.goto 4, 3) := by decide +kernel
theorem dB_count_97 : decode cB_count 97 = .ok (.iconst 0, 1) := by decide +kernel
theorem dB_count_98 : decode cB_count 98 = .ok (.ireturn, 1) := by decide +kernel
theorem dB_count_99 : decode cB_count 99 = .ok (.iconst (-1), 1) := by decide +kernel
theorem dB_count_100 : decode cB_count 100 = .ok (.ireturn, 1) := by decide +kernel
theorem dJ_bitCount_0 : decode cJ_bitCount 0 = .ok (.lload_n 0, 1) := by decide +kernel
theorem dJ_bitCount_1 : decode cJ_bitCount 1 = .ok (.lload_n 0, 1) := by decide +kernel
theorem dJ_bitCount_2 : decode cJ_bitCount 2 = .ok (.iconst 1, 1) := by decide +kernel
theorem dJ_bitCount_3 : decode cJ_bitCount 3 = .ok (.lushr, 1) := by decide +kernel
theorem dJ_bitCount_4 : decode cJ_bitCount 4 = .ok (.ldc2_w 314, 3) := by decide +kernel
theorem dJ_bitCount_7 : decode cJ_bitCount 7 = .ok (.land, 1) := by decide +kernel
theorem dJ_bitCount_8 : decode cJ_bitCount 8 = .ok (.lsub, 1) := by decide +kernel
theorem dJ_bitCount_9 : decode cJ_bitCount 9 = .ok (.lstore_n 0, 1) := by decide +kernel
theorem dJ_bitCount_10 : decode cJ_bitCount 10 = .ok (.lload_n 0, 1) := by decide +kernel
theorem dJ_bitCount_11 : decode cJ_bitCount 11 = .ok (.ldc2_w 316, 3) := by decide +kernel
theorem dJ_bitCount_14 : decode cJ_bitCount 14 = .ok (.land, 1) := by decide +kernel
theorem dJ_bitCount_15 : decode cJ_bitCount 15 = .ok (.lload_n 0, 1) := by decide +kernel
theorem dJ_bitCount_16 : decode cJ_bitCount 16 = .ok (.iconst 2, 1) := by decide +kernel
theorem dJ_bitCount_17 : decode cJ_bitCount 17 = .ok (.lushr, 1) := by decide +kernel
theorem dJ_bitCount_18 : decode cJ_bitCount 18 = .ok (.ldc2_w 316, 3) := by decide +kernel
theorem dJ_bitCount_21 : decode cJ_bitCount 21 = .ok (.land, 1) := by decide +kernel
theorem dJ_bitCount_22 : decode cJ_bitCount 22 = .ok (.ladd, 1) := by decide +kernel
theorem dJ_bitCount_23 : decode cJ_bitCount 23 = .ok (.lstore_n 0, 1) := by decide +kernel
theorem dJ_bitCount_24 : decode cJ_bitCount 24 = .ok (.lload_n 0, 1) := by decide +kernel
theorem dJ_bitCount_25 : decode cJ_bitCount 25 = .ok (.lload_n 0, 1) := by decide +kernel
theorem dJ_bitCount_26 : decode cJ_bitCount 26 = .ok (.iconst 4, 1) := by decide +kernel
theorem dJ_bitCount_27 : decode cJ_bitCount 27 = .ok (.lushr, 1) := by decide +kernel
theorem dJ_bitCount_28 : decode cJ_bitCount 28 = .ok (.ladd, 1) := by decide +kernel
theorem dJ_bitCount_29 : decode cJ_bitCount 29 = .ok (.ldc2_w 318, 3) := by decide +kernel
theorem dJ_bitCount_32 : decode cJ_bitCount 32 = .ok (.land, 1) := by decide +kernel
theorem dJ_bitCount_33 : decode cJ_bitCount 33 = .ok (.lstore_n 0, 1) := by decide +kernel
theorem dJ_bitCount_34 : decode cJ_bitCount 34 = .ok (.lload_n 0, 1) := by decide +kernel
theorem dJ_bitCount_35 : decode cJ_bitCount 35 = .ok (.lload_n 0, 1) := by decide +kernel
theorem dJ_bitCount_36 : decode cJ_bitCount 36 = .ok (.bipush 8, 2) := by decide +kernel
theorem dJ_bitCount_38 : decode cJ_bitCount 38 = .ok (.lushr, 1) := by decide +kernel
theorem dJ_bitCount_39 : decode cJ_bitCount 39 = .ok (.ladd, 1) := by decide +kernel
theorem dJ_bitCount_40 : decode cJ_bitCount 40 = .ok (.lstore_n 0, 1) := by decide +kernel
theorem dJ_bitCount_41 : decode cJ_bitCount 41 = .ok (.lload_n 0, 1) := by decide +kernel
theorem dJ_bitCount_42 : decode cJ_bitCount 42 = .ok (.lload_n 0, 1) := by decide +kernel
theorem dJ_bitCount_43 : decode cJ_bitCount 43 = .ok (.bipush 16, 2) := by decide +kernel
theorem dJ_bitCount_45 : decode cJ_bitCount 45 = .ok (.lushr, 1) := by decide +kernel
theorem dJ_bitCount_46 : decode cJ_bitCount 46 = .ok (.ladd, 1) := by decide +kernel
theorem dJ_bitCount_47 : decode cJ_bitCount 47 = .ok (.lstore_n 0, 1) := by decide +kernel
theorem dJ_bitCount_48 : decode cJ_bitCount 48 = .ok (.lload_n 0, 1) := by decide +kernel
theorem dJ_bitCount_49 : decode cJ_bitCount 49 = .ok (.lload_n 0, 1) := by decide +kernel
theorem dJ_bitCount_50 : decode cJ_bitCount 50 = .ok (.bipush 32, 2) := by decide +kernel
theorem dJ_bitCount_52 : decode cJ_bitCount 52 = .ok (.lushr, 1) := by decide +kernel
theorem dJ_bitCount_53 : decode cJ_bitCount 53 = .ok (.ladd, 1) := by decide +kernel
theorem dJ_bitCount_54 : decode cJ_bitCount 54 = .ok (.lstore_n 0, 1) := by decide +kernel
theorem dJ_bitCount_55 : decode cJ_bitCount 55 = .ok (.lload_n 0, 1) := by decide +kernel
theorem dJ_bitCount_56 : decode cJ_bitCount 56 = .ok (.l2i, 1) := by decide +kernel
theorem dJ_bitCount_57 : decode cJ_bitCount 57 = .ok (.bipush 127, 2) := by decide +kernel
theorem dJ_bitCount_59 : decode cJ_bitCount 59 = .ok (.iand, 1) := by decide +kernel
theorem dJ_bitCount_60 : decode cJ_bitCount 60 = .ok (.ireturn, 1) := by decide +kernel
theorem dB_freshOnward_0 : decode cB_freshOnward 0 = .ok (.aload_n 0, 1) := by decide +kernel
theorem dB_freshOnward_1 : decode cB_freshOnward 1 = .ok (.invokevirtual 136, 3) := by decide +kernel
theorem dB_freshOnward_4 : decode cB_freshOnward 4 = .ok (.aload_n 0, 1) := by decide +kernel
theorem dB_freshOnward_5 : decode cB_freshOnward 5 = .ok (.getfield 20, 3) := by decide +kernel
theorem dB_freshOnward_8 : decode cB_freshOnward 8 = .ok (.areturn, 1) := by decide +kernel
theorem dB_renewOnward_0 : decode cB_renewOnward 0 = .ok (.aload_n 0, 1) := by decide +kernel
theorem dB_renewOnward_1 : decode cB_renewOnward 1 = .ok (.getfield 34, 3) := by decide +kernel
theorem dB_renewOnward_4 : decode cB_renewOnward 4 = .ok (.ifCond .eq 38, 3) := by decide +kernel
theorem dB_renewOnward_7 : decode cB_renewOnward 7 = .ok (.aload_n 0, 1) := by decide +kernel
theorem dB_renewOnward_8 : decode cB_renewOnward 8 = .ok (.getfield 20, 3) := by decide +kernel
theorem dB_renewOnward_11 : decode cB_renewOnward 11 = .ok (.iconst 0, 1) := by decide +kernel
theorem dB_renewOnward_12 : decode cB_renewOnward 12 = .ok (.invokestatic 49, 3) := by decide +kernel
theorem dB_renewOnward_15 : decode cB_renewOnward 15 = .ok (.aload_n 0, 1) := by decide +kernel
theorem dB_renewOnward_16 : decode cB_renewOnward 16 = .ok (.getfield 7, 3) := by decide +kernel
theorem dB_renewOnward_19 : decode cB_renewOnward 19 = .ok (.invokevirtual 139, 3) := by decide +kernel
theorem dB_renewOnward_22 : decode cB_renewOnward 22 = .ok (.aload_n 0, 1) := by decide +kernel
theorem dB_renewOnward_23 : decode cB_renewOnward 23 = .ok (.getfield 30, 3) := by decide +kernel
theorem dB_renewOnward_26 : decode cB_renewOnward 26 = .ok (.aload_n 0, 1) := by decide +kernel
theorem dB_renewOnward_27 : decode cB_renewOnward 27 = .ok (.getfield 20, 3) := by decide +kernel
theorem dB_renewOnward_30 : decode cB_renewOnward 30 = .ok (.aload_n 0, 1) := by decide +kernel
theorem dB_renewOnward_31 : decode cB_renewOnward 31 = .ok (.getfield 24, 3) := by decide +kernel
theorem dB_renewOnward_34 : decode cB_renewOnward 34 = .ok (.invokevirtual 143, 3) := by decide +kernel
theorem dB_renewOnward_37 : decode cB_renewOnward 37 = .ok (.aload_n 0, 1) := by decide +kernel
theorem dB_renewOnward_38 : decode cB_renewOnward 38 = .ok (.iconst 0, 1) := by decide +kernel
theorem dB_renewOnward_39 : decode cB_renewOnward 39 = .ok (.putfield 34, 3) := by decide +kernel
theorem dB_renewOnward_42 : decode cB_renewOnward 42 = .ok (.return_, 1) := by decide +kernel
theorem dS_renew_0 : decode cS_renew 0 = .ok (.aload_n 0, 1) := by decide +kernel
theorem dS_renew_1 : decode cS_renew 1 = .ok (.aload_n 0, 1) := by decide +kernel
theorem dS_renew_2 : decode cS_renew 2 = .ok (.lload_n 1, 1) := by decide +kernel
theorem dS_renew_3 : decode cS_renew 3 = .ok (.lload_n 3, 1) := by decide +kernel
theorem dS_renew_4 : decode cS_renew 4 = .ok (.invokevirtual 28, 3) := by decide +kernel
theorem dS_renew_7 : decode cS_renew 7 = .ok (.putfield 18, 3) := by decide +kernel
theorem dS_renew_10 : decode cS_renew 10 = .ok (.iconst 0, 1) := by decide +kernel
theorem dS_renew_11 : decode cS_renew 11 = .ok (.istore 5, 2) := by decide +kernel
theorem dS_renew_13 : decode cS_renew 13 = .ok (.iload 5, 2) := by decide +kernel
theorem dS_renew_15 : decode cS_renew 15 = .ok (.bipush 40, 2) := by decide +kernel
theorem dS_renew_17 : decode cS_renew 17 = .ok (.if_icmp .ge 60, 3) := by decide +kernel
theorem dS_renew_20 : decode cS_renew 20 = .ok (.aload_n 0, 1) := by decide +kernel
theorem dS_renew_21 : decode cS_renew 21 = .ok (.getfield 15, 3) := by decide +kernel
theorem dS_renew_24 : decode cS_renew 24 = .ok (.iload 5, 2) := by decide +kernel
theorem dS_renew_26 : decode cS_renew 26 = .ok (.aload_n 0, 1) := by decide +kernel
theorem dS_renew_27 : decode cS_renew 27 = .ok (.getfield 18, 3) := by decide +kernel
theorem dS_renew_30 : decode cS_renew 30 = .ok (.iload 5, 2) := by decide +kernel
theorem dS_renew_32 : decode cS_renew 32 = .ok (.invokestatic 32, 3) := by decide +kernel
theorem dS_renew_35 : decode cS_renew 35 = .ok (.ifCond .eq 34, 3) := by decide +kernel
theorem dS_renew_38 : decode cS_renew 38 = .ok (.aload_n 0, 1) := by decide +kernel
theorem dS_renew_39 : decode cS_renew 39 = .ok (.getfield 18, 3) := by decide +kernel
theorem dS_renew_42 : decode cS_renew 42 = .ok (.aload_n 0, 1) := by decide +kernel
theorem dS_renew_43 : decode cS_renew 43 = .ok (.lload_n 1, 1) := by decide +kernel
theorem dS_renew_44 : decode cS_renew 44 = .ok (.aload_n 0, 1) := by decide +kernel
theorem dS_renew_45 : decode cS_renew 45 = .ok (.getfield 18, 3) := by decide +kernel
theorem dS_renew_48 : decode cS_renew 48 = .ok (.iload 5, 2) := by decide +kernel
theorem dS_renew_50 : decode cS_renew 50 = .ok (.invokestatic 22, 3) := by decide +kernel
theorem dS_renew_53 : decode cS_renew 53 = .ok (.ldc2_w 26, 3) := by decide +kernel
theorem dS_renew_56 : decode cS_renew 56 = .ok (.lxor, 1) := by decide +kernel
theorem dS_renew_57 : decode cS_renew 57 = .ok (.land, 1) := by decide +kernel
theorem dS_renew_58 : decode cS_renew 58 = .ok (.invokevirtual 28, 3) := by decide +kernel
theorem dS_renew_61 : decode cS_renew 61 = .ok (.ldc2_w 26, 3) := by decide +kernel
theorem dS_renew_64 : decode cS_renew 64 = .ok (.lxor, 1) := by decide +kernel
theorem dS_renew_65 : decode cS_renew 65 = .ok (.land, 1) := by decide +kernel
theorem dS_renew_66 : decode cS_renew 66 = .ok (.goto 4, 3) := by decide +kernel
theorem dS_renew_69 : decode cS_renew 69 = .ok (.lconst 0, 1) := by decide +kernel
theorem dS_renew_70 : decode cS_renew 70 = .ok (.lastore, 1) := by decide +kernel
theorem dS_renew_71 : decode cS_renew 71 = .ok (.iinc 5 1, 3) := by decide +kernel
theorem dS_renew_74 : decode cS_renew 74 = .ok (.goto (-61), 3) := by decide +kernel
theorem dS_renew_77 : decode cS_renew 77 = .ok (.return_, 1) := by decide +kernel
theorem dS_flood_0 : decode cS_flood 0 = .ok (.lload_n 1, 1) := by decide +kernel
theorem dS_flood_1 : decode cS_flood 1 = .ok (.lload_n 3, 1) := by decide +kernel
theorem dS_flood_2 : decode cS_flood 2 = .ok (.land, 1) := by decide +kernel
theorem dS_flood_3 : decode cS_flood 3 = .ok (.lstore 5, 2) := by decide +kernel
theorem dS_flood_5 : decode cS_flood 5 = .ok (.lload 5, 2) := by decide +kernel
theorem dS_flood_7 : decode cS_flood 7 = .ok (.lstore 7, 2) := by decide +kernel
theorem dS_flood_9 : decode cS_flood 9 = .ok (.lload 7, 2) := by decide +kernel
theorem dS_flood_11 : decode cS_flood 11 = .ok (.invokestatic 36, 3) := by decide +kernel
theorem dS_flood_14 : decode cS_flood 14 = .ok (.istore 9, 2) := by decide +kernel
theorem dS_flood_16 : decode cS_flood 16 = .ok (.iconst 0, 1) := by decide +kernel
theorem dS_flood_17 : decode cS_flood 17 = .ok (.istore 10, 2) := by decide +kernel
theorem dS_flood_19 : decode cS_flood 19 = .ok (.iload 10, 2) := by decide +kernel
theorem dS_flood_21 : decode cS_flood 21 = .ok (.bipush 40, 2) := by decide +kernel
theorem dS_flood_23 : decode cS_flood 23 = .ok (.if_icmp .ge 65, 3) := by decide +kernel
theorem dS_flood_26 : decode cS_flood 26 = .ok (.iload 9, 2) := by decide +kernel
theorem dS_flood_28 : decode cS_flood 28 = .ok (.bipush 40, 2) := by decide +kernel
theorem dS_flood_30 : decode cS_flood 30 = .ok (.if_icmp .ge 58, 3) := by decide +kernel
theorem dS_flood_33 : decode cS_flood 33 = .ok (.aload_n 0, 1) := by decide +kernel
theorem dS_flood_34 : decode cS_flood 34 = .ok (.getfield 9, 3) := by decide +kernel
theorem dS_flood_37 : decode cS_flood 37 = .ok (.iload 9, 2) := by decide +kernel
theorem dS_flood_39 : decode cS_flood 39 = .ok (.laload, 1) := by decide +kernel
theorem dS_flood_40 : decode cS_flood 40 = .ok (.lload_n 3, 1) := by decide +kernel
theorem dS_flood_41 : decode cS_flood 41 = .ok (.land, 1) := by decide +kernel
theorem dS_flood_42 : decode cS_flood 42 = .ok (.lload 5, 2) := by decide +kernel
theorem dS_flood_44 : decode cS_flood 44 = .ok (.ldc2_w 26, 3) := by decide +kernel
theorem dS_flood_47 : decode cS_flood 47 = .ok (.lxor, 1) := by decide +kernel
theorem dS_flood_48 : decode cS_flood 48 = .ok (.land, 1) := by decide +kernel
theorem dS_flood_49 : decode cS_flood 49 = .ok (.lstore 11, 2) := by decide +kernel
theorem dS_flood_51 : decode cS_flood 51 = .ok (.lload 5, 2) := by decide +kernel
theorem dS_flood_53 : decode cS_flood 53 = .ok (.lload 11, 2) := by decide +kernel
theorem dS_flood_55 : decode cS_flood 55 = .ok (.lor, 1) := by decide +kernel
theorem dS_flood_56 : decode cS_flood 56 = .ok (.lstore 5, 2) := by decide +kernel
theorem dS_flood_58 : decode cS_flood 58 = .ok (.lload 7, 2) := by decide +kernel
theorem dS_flood_60 : decode cS_flood 60 = .ok (.iload 9, 2) := by decide +kernel
theorem dS_flood_62 : decode cS_flood 62 = .ok (.invokestatic 22, 3) := by decide +kernel
theorem dS_flood_65 : decode cS_flood 65 = .ok (.ldc2_w 26, 3) := by decide +kernel
theorem dS_flood_68 : decode cS_flood 68 = .ok (.lxor, 1) := by decide +kernel
theorem dS_flood_69 : decode cS_flood 69 = .ok (.land, 1) := by decide +kernel
theorem dS_flood_70 : decode cS_flood 70 = .ok (.lload 11, 2) := by decide +kernel
theorem dS_flood_72 : decode cS_flood 72 = .ok (.lor, 1) := by decide +kernel
theorem dS_flood_73 : decode cS_flood 73 = .ok (.lstore 7, 2) := by decide +kernel
theorem dS_flood_75 : decode cS_flood 75 = .ok (.lload 7, 2) := by decide +kernel
theorem dS_flood_77 : decode cS_flood 77 = .ok (.invokestatic 36, 3) := by decide +kernel
theorem dS_flood_80 : decode cS_flood 80 = .ok (.istore 9, 2) := by decide +kernel
theorem dS_flood_82 : decode cS_flood 82 = .ok (.iinc 10 1, 3) := by decide +kernel
theorem dS_flood_85 : decode cS_flood 85 = .ok (.goto (-66), 3) := by decide +kernel
theorem dS_flood_88 : decode cS_flood 88 = .ok (.lload 5, 2) := by decide +kernel
theorem dS_flood_90 : decode cS_flood 90 = .ok (.lreturn, 1) := by decide +kernel
theorem dB_lowest_0 : decode cB_lowest 0 = .ok (.lload_n 0, 1) := by decide +kernel
theorem dB_lowest_1 : decode cB_lowest 1 = .ok (.lload_n 0, 1) := by decide +kernel
theorem dB_lowest_2 : decode cB_lowest 2 = .ok (.lneg, 1) := by decide +kernel
theorem dB_lowest_3 : decode cB_lowest 3 = .ok (.land, 1) := by decide +kernel
theorem dB_lowest_4 : decode cB_lowest 4 = .ok (.lconst 1, 1) := by decide +kernel
theorem dB_lowest_5 : decode cB_lowest 5 = .ok (.lsub, 1) := by decide +kernel
theorem dB_lowest_6 : decode cB_lowest 6 = .ok (.invokestatic 72, 3) := by decide +kernel
theorem dB_lowest_9 : decode cB_lowest 9 = .ok (.ireturn, 1) := by decide +kernel
theorem dR_renew_0 : decode cR_renew 0 = .ok (.iconst 0, 1) := by decide +kernel
theorem dR_renew_1 : decode cR_renew 1 = .ok (.istore_n 3, 1) := by decide +kernel
theorem dR_renew_2 : decode cR_renew 2 = .ok (.iload_n 3, 1) := by decide +kernel
theorem dR_renew_3 : decode cR_renew 3 = .ok (.bipush 40, 2) := by decide +kernel
theorem dR_renew_5 : decode cR_renew 5 = .ok (.if_icmp .ge 67, 3) := by decide +kernel
theorem dR_renew_8 : decode cR_renew 8 = .ok (.aload_n 2, 1) := by decide +kernel
theorem dR_renew_9 : decode cR_renew 9 = .ok (.iload_n 3, 1) := by decide +kernel
theorem dR_renew_10 : decode cR_renew 10 = .ok (.invokevirtual 15, 3) := by decide +kernel
theorem dR_renew_13 : decode cR_renew 13 = .ok (.aload_n 1, 1) := by decide +kernel
theorem dR_renew_14 : decode cR_renew 14 = .ok (.iload_n 3, 1) := by decide +kernel
theorem dR_renew_15 : decode cR_renew 15 = .ok (.invokevirtual 21, 3) := by decide +kernel
theorem dR_renew_18 : decode cR_renew 18 = .ok (.land, 1) := by decide +kernel
theorem dR_renew_19 : decode cR_renew 19 = .ok (.lstore 4, 2) := by decide +kernel
theorem dR_renew_21 : decode cR_renew 21 = .ok (.aload_n 2, 1) := by decide +kernel
theorem dR_renew_22 : decode cR_renew 22 = .ok (.lload 4, 2) := by decide +kernel
theorem dR_renew_24 : decode cR_renew 24 = .ok (.aload_n 1, 1) := by decide +kernel
theorem dR_renew_25 : decode cR_renew 25 = .ok (.invokevirtual 24, 3) := by decide +kernel
theorem dR_renew_28 : decode cR_renew 28 = .ok (.iload_n 3, 1) := by decide +kernel
theorem dR_renew_29 : decode cR_renew 29 = .ok (.invokestatic 28, 3) := by decide +kernel
theorem dR_renew_32 : decode cR_renew 32 = .ok (.ldc2_w 31, 3) := by decide +kernel
theorem dR_renew_35 : decode cR_renew 35 = .ok (.lxor, 1) := by decide +kernel
theorem dR_renew_36 : decode cR_renew 36 = .ok (.land, 1) := by decide +kernel
theorem dR_renew_37 : decode cR_renew 37 = .ok (.invokevirtual 33, 3) := by decide +kernel
theorem dR_renew_40 : decode cR_renew 40 = .ok (.lstore 6, 2) := by decide +kernel
theorem dR_renew_42 : decode cR_renew 42 = .ok (.aload_n 0, 1) := by decide +kernel
theorem dR_renew_43 : decode cR_renew 43 = .ok (.getfield 9, 3) := by decide +kernel
theorem dR_renew_46 : decode cR_renew 46 = .ok (.iload_n 3, 1) := by decide +kernel
theorem dR_renew_47 : decode cR_renew 47 = .ok (.lload 4, 2) := by decide +kernel
theorem dR_renew_49 : decode cR_renew 49 = .ok (.lconst 0, 1) := by decide +kernel
theorem dR_renew_50 : decode cR_renew 50 = .ok (.lcmp, 1) := by decide +kernel
theorem dR_renew_51 : decode cR_renew 51 = .ok (.ifCond .ne 7, 3) := by decide +kernel
theorem dR_renew_54 : decode cR_renew 54 = .ok (.lconst 0, 1) := by decide +kernel
theorem dR_renew_55 : decode cR_renew 55 = .ok (.goto 10, 3) := by decide +kernel
theorem dR_renew_58 : decode cR_renew 58 = .ok (.lload 6, 2) := by decide +kernel
theorem dR_renew_60 : decode cR_renew 60 = .ok (.iload_n 3, 1) := by decide +kernel
theorem dR_renew_61 : decode cR_renew 61 = .ok (.invokestatic 28, 3) := by decide +kernel
theorem dR_renew_64 : decode cR_renew 64 = .ok (.lor, 1) := by decide +kernel
theorem dR_renew_65 : decode cR_renew 65 = .ok (.lastore, 1) := by decide +kernel
theorem dR_renew_66 : decode cR_renew 66 = .ok (.iinc 3 1, 3) := by decide +kernel
theorem dR_renew_69 : decode cR_renew 69 = .ok (.goto (-67), 3) := by decide +kernel
theorem dR_renew_72 : decode cR_renew 72 = .ok (.return_, 1) := by decide +kernel
theorem dS_stepsOf_0 : decode cS_stepsOf 0 = .ok (.aload_n 0, 1) := by decide +kernel
theorem dS_stepsOf_1 : decode cS_stepsOf 1 = .ok (.getfield 9, 3) := by decide +kernel
theorem dS_stepsOf_4 : decode cS_stepsOf 4 = .ok (.iload_n 1, 1) := by decide +kernel
theorem dS_stepsOf_5 : decode cS_stepsOf 5 = .ok (.laload, 1) := by decide +kernel
theorem dS_stepsOf_6 : decode cS_stepsOf 6 = .ok (.lreturn, 1) := by decide +kernel
theorem dS_gated_0 : decode cS_gated 0 = .ok (.aload_n 0, 1) := by decide +kernel
theorem dS_gated_1 : decode cS_gated 1 = .ok (.getfield 15, 3) := by decide +kernel
theorem dS_gated_4 : decode cS_gated 4 = .ok (.iload_n 1, 1) := by decide +kernel
theorem dS_gated_5 : decode cS_gated 5 = .ok (.laload, 1) := by decide +kernel
theorem dS_gated_6 : decode cS_gated 6 = .ok (.lreturn, 1) := by decide +kernel
theorem dS_covered_0 : decode cS_covered 0 = .ok (.aload_n 0, 1) := by decide +kernel
theorem dS_covered_1 : decode cS_covered 1 = .ok (.getfield 18, 3) := by decide +kernel
theorem dS_covered_4 : decode cS_covered 4 = .ok (.lreturn, 1) := by decide +kernel
theorem dB_freshBackward_0 : decode cB_freshBackward 0 = .ok (.aload_n 0, 1) := by decide +kernel
theorem dB_freshBackward_1 : decode cB_freshBackward 1 = .ok (.getfield 38, 3) := by decide +kernel
theorem dB_freshBackward_4 : decode cB_freshBackward 4 = .ok (.ifCond .eq 23, 3) := by decide +kernel
theorem dB_freshBackward_7 : decode cB_freshBackward 7 = .ok (.aload_n 0, 1) := by decide +kernel
theorem dB_freshBackward_8 : decode cB_freshBackward 8 = .ok (.getfield 24, 3) := by decide +kernel
theorem dB_freshBackward_11 : decode cB_freshBackward 11 = .ok (.aload_n 0, 1) := by decide +kernel
theorem dB_freshBackward_12 : decode cB_freshBackward 12 = .ok (.invokevirtual 146, 3) := by decide +kernel
theorem dB_freshBackward_15 : decode cB_freshBackward 15 = .ok (.aload_n 0, 1) := by decide +kernel
theorem dB_freshBackward_16 : decode cB_freshBackward 16 = .ok (.getfield 7, 3) := by decide +kernel
theorem dB_freshBackward_19 : decode cB_freshBackward 19 = .ok (.invokevirtual 139, 3) := by decide +kernel
theorem dB_freshBackward_22 : decode cB_freshBackward 22 = .ok (.aload_n 0, 1) := by decide +kernel
theorem dB_freshBackward_23 : decode cB_freshBackward 23 = .ok (.iconst 0, 1) := by decide +kernel
theorem dB_freshBackward_24 : decode cB_freshBackward 24 = .ok (.putfield 38, 3) := by decide +kernel
theorem dB_freshBackward_27 : decode cB_freshBackward 27 = .ok (.aload_n 0, 1) := by decide +kernel
theorem dB_freshBackward_28 : decode cB_freshBackward 28 = .ok (.getfield 24, 3) := by decide +kernel
theorem dB_freshBackward_31 : decode cB_freshBackward 31 = .ok (.areturn, 1) := by decide +kernel
theorem dB_ends_0 : decode cB_ends 0 = .ok (.lconst 0, 1) := by decide +kernel
theorem dB_ends_1 : decode cB_ends 1 = .ok (.lstore_n 1, 1) := by decide +kernel
theorem dB_ends_2 : decode cB_ends 2 = .ok (.iconst 0, 1) := by decide +kernel
theorem dB_ends_3 : decode cB_ends 3 = .ok (.istore_n 3, 1) := by decide +kernel
theorem dB_ends_4 : decode cB_ends 4 = .ok (.iload_n 3, 1) := by decide +kernel
theorem dB_ends_5 : decode cB_ends 5 = .ok (.bipush 40, 2) := by decide +kernel
theorem dB_ends_7 : decode cB_ends 7 = .ok (.if_icmp .ge 36, 3) := by decide +kernel
theorem dB_ends_10 : decode cB_ends 10 = .ok (.aload_n 0, 1) := by decide +kernel
theorem dB_ends_11 : decode cB_ends 11 = .ok (.getfield 7, 3) := by decide +kernel
theorem dB_ends_14 : decode cB_ends 14 = .ok (.iload_n 3, 1) := by decide +kernel
theorem dB_ends_15 : decode cB_ends 15 = .ok (.invokestatic 45, 3) := by decide +kernel
theorem dB_ends_18 : decode cB_ends 18 = .ok (.ifCond .eq 19, 3) := by decide +kernel
theorem dB_ends_21 : decode cB_ends 21 = .ok (.aload_n 0, 1) := by decide +kernel
theorem dB_ends_22 : decode cB_ends 22 = .ok (.getfield 13, 3) := by decide +kernel
theorem dB_ends_25 : decode cB_ends 25 = .ok (.iload_n 3, 1) := by decide +kernel
theorem dB_ends_26 : decode cB_ends 26 = .ok (.iaload, 1) := by decide +kernel
theorem dB_ends_27 : decode cB_ends 27 = .ok (.ifCond .ne 10, 3) := by decide +kernel
theorem dB_ends_30 : decode cB_ends 30 = .ok (.lload_n 1, 1) := by decide +kernel
theorem dB_ends_31 : decode cB_ends 31 = .ok (.iload_n 3, 1) := by decide +kernel
theorem dB_ends_32 : decode cB_ends 32 = .ok (.invokestatic 49, 3) := by decide +kernel
theorem dB_ends_35 : decode cB_ends 35 = .ok (.lor, 1) := by decide +kernel
theorem dB_ends_36 : decode cB_ends 36 = .ok (.lstore_n 1, 1) := by decide +kernel
theorem dB_ends_37 : decode cB_ends 37 = .ok (.iinc 3 1, 3) := by decide +kernel
theorem dB_ends_40 : decode cB_ends 40 = .ok (.goto (-36), 3) := by decide +kernel
theorem dB_ends_43 : decode cB_ends 43 = .ok (.lload_n 1, 1) := by decide +kernel
theorem dB_ends_44 : decode cB_ends 44 = .ok (.lreturn, 1) := by decide +kernel
theorem dB_freshRounds_0 : decode cB_freshRounds 0 = .ok (.aload_n 0, 1) := by decide +kernel
theorem dB_freshRounds_1 : decode cB_freshRounds 1 = .ok (.invokevirtual 136, 3) := by decide +kernel
theorem dB_freshRounds_4 : decode cB_freshRounds 4 = .ok (.aload_n 0, 1) := by decide +kernel
theorem dB_freshRounds_5 : decode cB_freshRounds 5 = .ok (.getfield 30, 3) := by decide +kernel
theorem dB_freshRounds_8 : decode cB_freshRounds 8 = .ok (.areturn, 1) := by decide +kernel
theorem dR_number_0 : decode cR_number 0 = .ok (.iconst 0, 1) := by decide +kernel
theorem dR_number_1 : decode cR_number 1 = .ok (.istore_n 1, 1) := by decide +kernel
theorem dR_number_2 : decode cR_number 2 = .ok (.iconst 0, 1) := by decide +kernel
theorem dR_number_3 : decode cR_number 3 = .ok (.istore_n 2, 1) := by decide +kernel
theorem dR_number_4 : decode cR_number 4 = .ok (.iload_n 2, 1) := by decide +kernel
theorem dR_number_5 : decode cR_number 5 = .ok (.bipush 40, 2) := by decide +kernel
theorem dR_number_7 : decode cR_number 7 = .ok (.if_icmp .ge 23, 3) := by decide +kernel
theorem dR_number_10 : decode cR_number 10 = .ok (.aload_n 0, 1) := by decide +kernel
theorem dR_number_11 : decode cR_number 11 = .ok (.getfield 9, 3) := by decide +kernel
theorem dR_number_14 : decode cR_number 14 = .ok (.iload_n 2, 1) := by decide +kernel
theorem dR_number_15 : decode cR_number 15 = .ok (.laload, 1) := by decide +kernel
theorem dR_number_16 : decode cR_number 16 = .ok (.lconst 0, 1) := by decide +kernel
theorem dR_number_17 : decode cR_number 17 = .ok (.lcmp, 1) := by decide +kernel
theorem dR_number_18 : decode cR_number 18 = .ok (.ifCond .eq 6, 3) := by decide +kernel
theorem dR_number_21 : decode cR_number 21 = .ok (.iinc 1 1, 3) := by decide +kernel
theorem dR_number_24 : decode cR_number 24 = .ok (.iinc 2 1, 3) := by decide +kernel
theorem dR_number_27 : decode cR_number 27 = .ok (.goto (-23), 3) := by decide +kernel
theorem dR_number_30 : decode cR_number 30 = .ok (.iload_n 1, 1) := by decide +kernel
theorem dR_number_31 : decode cR_number 31 = .ok (.ireturn, 1) := by decide +kernel
theorem dR_deepest_0 : decode cR_deepest 0 = .ok (.iconst 0, 1) := by decide +kernel
theorem dR_deepest_1 : decode cR_deepest 1 = .ok (.istore_n 1, 1) := by decide +kernel
theorem dR_deepest_2 : decode cR_deepest 2 = .ok (.iconst 0, 1) := by decide +kernel
theorem dR_deepest_3 : decode cR_deepest 3 = .ok (.istore_n 2, 1) := by decide +kernel
theorem dR_deepest_4 : decode cR_deepest 4 = .ok (.iload_n 2, 1) := by decide +kernel
theorem dR_deepest_5 : decode cR_deepest 5 = .ok (.bipush 40, 2) := by decide +kernel
theorem dR_deepest_7 : decode cR_deepest 7 = .ok (.if_icmp .ge 19, 3) := by decide +kernel
theorem dR_deepest_10 : decode cR_deepest 10 = .ok (.iload_n 1, 1) := by decide +kernel
theorem dR_deepest_11 : decode cR_deepest 11 = .ok (.aload_n 0, 1) := by decide +kernel
theorem dR_deepest_12 : decode cR_deepest 12 = .ok (.iload_n 2, 1) := by decide +kernel
theorem dR_deepest_13 : decode cR_deepest 13 = .ok (.invokevirtual 41, 3) := by decide +kernel
theorem dR_deepest_16 : decode cR_deepest 16 = .ok (.invokestatic 45, 3) := by decide +kernel
theorem dR_deepest_19 : decode cR_deepest 19 = .ok (.istore_n 1, 1) := by decide +kernel
theorem dR_deepest_20 : decode cR_deepest 20 = .ok (.iinc 2 1, 3) := by decide +kernel
theorem dR_deepest_23 : decode cR_deepest 23 = .ok (.goto (-19), 3) := by decide +kernel
theorem dR_deepest_26 : decode cR_deepest 26 = .ok (.iload_n 1, 1) := by decide +kernel
theorem dR_deepest_27 : decode cR_deepest 27 = .ok (.ireturn, 1) := by decide +kernel
theorem dR_numberAround_0 : decode cR_numberAround 0 = .ok (.iconst 0, 1) := by decide +kernel
theorem dR_numberAround_1 : decode cR_numberAround 1 = .ok (.istore_n 2, 1) := by decide +kernel
theorem dR_numberAround_2 : decode cR_numberAround 2 = .ok (.iconst 0, 1) := by decide +kernel
theorem dR_numberAround_3 : decode cR_numberAround 3 = .ok (.istore_n 3, 1) := by decide +kernel
theorem dR_numberAround_4 : decode cR_numberAround 4 = .ok (.iload_n 3, 1) := by decide +kernel
theorem dR_numberAround_5 : decode cR_numberAround 5 = .ok (.bipush 40, 2) := by decide +kernel
theorem dR_numberAround_7 : decode cR_numberAround 7 = .ok (.if_icmp .ge 25, 3) := by decide +kernel
theorem dR_numberAround_10 : decode cR_numberAround 10 = .ok (.aload_n 0, 1) := by decide +kernel
theorem dR_numberAround_11 : decode cR_numberAround 11 = .ok (.getfield 9, 3) := by decide +kernel
theorem dR_numberAround_14 : decode cR_numberAround 14 = .ok (.iload_n 3, 1) := by decide +kernel
theorem dR_numberAround_15 : decode cR_numberAround 15 = .ok (.laload, 1) := by decide +kernel
theorem dR_numberAround_16 : decode cR_numberAround 16 = .ok (.iload_n 1, 1) := by decide +kernel
theorem dR_numberAround_17 : decode cR_numberAround 17 = .ok (.invokestatic 37, 3) := by decide +kernel
theorem dR_numberAround_20 : decode cR_numberAround 20 = .ok (.ifCond .eq 6, 3) := by decide +kernel
theorem dR_numberAround_23 : decode cR_numberAround 23 = .ok (.iinc 2 1, 3) := by decide +kernel
theorem dR_numberAround_26 : decode cR_numberAround 26 = .ok (.iinc 3 1, 3) := by decide +kernel
theorem dR_numberAround_29 : decode cR_numberAround 29 = .ok (.goto (-25), 3) := by decide +kernel
theorem dR_numberAround_32 : decode cR_numberAround 32 = .ok (.iload_n 2, 1) := by decide +kernel
theorem dR_numberAround_33 : decode cR_numberAround 33 = .ok (.ireturn, 1) := by decide +kernel
theorem dB_isPlain_0 : decode cB_isPlain 0 = .ok (.aload_n 0, 1) := by decide +kernel
theorem dB_isPlain_1 : decode cB_isPlain 1 = .ok (.invokevirtual 78, 3) := by decide +kernel
theorem dB_isPlain_4 : decode cB_isPlain 4 = .ok (.astore_n 1, 1) := by decide +kernel
theorem dB_isPlain_5 : decode cB_isPlain 5 = .ok (.aload_n 1, 1) := by decide +kernel
theorem dB_isPlain_6 : decode cB_isPlain 6 = .ok (.invokevirtual 82, 3) := by decide +kernel
theorem dB_isPlain_9 : decode cB_isPlain 9 = .ok (.lstore_n 2, 1) := by decide +kernel
theorem dB_isPlain_10 : decode cB_isPlain 10 = .ok (.iconst 0, 1) := by decide +kernel
theorem dB_isPlain_11 : decode cB_isPlain 11 = .ok (.istore 4, 2) := by decide +kernel
theorem dB_isPlain_13 : decode cB_isPlain 13 = .ok (.iload 4, 2) := by decide +kernel
theorem dB_isPlain_15 : decode cB_isPlain 15 = .ok (.bipush 40, 2) := by decide +kernel
theorem dB_isPlain_17 : decode cB_isPlain 17 = .ok (.if_icmp .ge 74, 3) := by decide +kernel
theorem dB_isPlain_20 : decode cB_isPlain 20 = .ok (.lload_n 2, 1) := by decide +kernel
theorem dB_isPlain_21 : decode cB_isPlain 21 = .ok (.lconst 0, 1) := by decide +kernel
theorem dB_isPlain_22 : decode cB_isPlain 22 = .ok (.lcmp, 1) := by decide +kernel
theorem dB_isPlain_23 : decode cB_isPlain 23 = .ok (.ifCond .eq 68, 3) := by decide +kernel
theorem dB_isPlain_26 : decode cB_isPlain 26 = .ok (.iconst 0, 1) := by decide +kernel
theorem dB_isPlain_27 : decode cB_isPlain 27 = .ok (.istore 5, 2) := by decide +kernel
theorem dB_isPlain_29 : decode cB_isPlain 29 = .ok (.iload 5, 2) := by decide +kernel
theorem dB_isPlain_31 : decode cB_isPlain 31 = .ok (.bipush 40, 2) := by decide +kernel
theorem dB_isPlain_33 : decode cB_isPlain 33 = .ok (.if_icmp .ge 52, 3) := by decide +kernel
end
section
theorem dB_isPlain_36 : decode cB_isPlain 36 = .ok (.aload_n 0, 1) := by decide +kernel
theorem dB_isPlain_37 : decode cB_isPlain 37 = .ok (.getfield 24, 3) := by decide +kernel
theorem dB_isPlain_40 : decode cB_isPlain 40 = .ok (.iload 5, 2) := by decide +kernel
theorem dB_isPlain_42 : decode cB_isPlain 42 = .ok (.invokevirtual 149, 3) := by decide +kernel
theorem dB_isPlain_45 : decode cB_isPlain 45 = .ok (.aload_n 1, 1) := by decide +kernel
theorem dB_isPlain_46 : decode cB_isPlain 46 = .ok (.iload 5, 2) := by decide +kernel
theorem dB_isPlain_48 : decode cB_isPlain 48 = .ok (.invokevirtual 117, 3) := by decide +kernel
theorem dB_isPlain_51 : decode cB_isPlain 51 = .ok (.ldc2_w 63, 3) := by decide +kernel
theorem dB_isPlain_54 : decode cB_isPlain 54 = .ok (.lxor, 1) := by decide +kernel
theorem dB_isPlain_55 : decode cB_isPlain 55 = .ok (.land, 1) := by decide +kernel
theorem dB_isPlain_56 : decode cB_isPlain 56 = .ok (.lstore 6, 2) := by decide +kernel
theorem dB_isPlain_58 : decode cB_isPlain 58 = .ok (.lload 6, 2) := by decide +kernel
theorem dB_isPlain_60 : decode cB_isPlain 60 = .ok (.lload_n 2, 1) := by decide +kernel
theorem dB_isPlain_61 : decode cB_isPlain 61 = .ok (.land, 1) := by decide +kernel
theorem dB_isPlain_62 : decode cB_isPlain 62 = .ok (.lconst 0, 1) := by decide +kernel
theorem dB_isPlain_63 : decode cB_isPlain 63 = .ok (.lcmp, 1) := by decide +kernel
theorem dB_isPlain_64 : decode cB_isPlain 64 = .ok (.ifCond .ne 15, 3) := by decide +kernel
theorem dB_isPlain_67 : decode cB_isPlain 67 = .ok (.lload_n 2, 1) := by decide +kernel
theorem dB_isPlain_68 : decode cB_isPlain 68 = .ok (.iload 5, 2) := by decide +kernel
theorem dB_isPlain_70 : decode cB_isPlain 70 = .ok (.invokestatic 49, 3) := by decide +kernel
theorem dB_isPlain_73 : decode cB_isPlain 73 = .ok (.ldc2_w 63, 3) := by decide +kernel
theorem dB_isPlain_76 : decode cB_isPlain 76 = .ok (.lxor, 1) := by decide +kernel
theorem dB_isPlain_77 : decode cB_isPlain 77 = .ok (.land, 1) := by decide +kernel
theorem dB_isPlain_78 : decode cB_isPlain 78 = .ok (.lstore_n 2, 1) := by decide +kernel
theorem dB_isPlain_79 : decode cB_isPlain 79 = .ok (.iinc 5 1, 3) := by decide +kernel
theorem dB_isPlain_82 : decode cB_isPlain 82 = .ok (.goto (-53), 3) := by decide +kernel
theorem dB_isPlain_85 : decode cB_isPlain 85 = .ok (.iinc 4 1, 3) := by decide +kernel
theorem dB_isPlain_88 : decode cB_isPlain 88 = .ok (.goto (-75), 3) := by decide +kernel
theorem dB_isPlain_91 : decode cB_isPlain 91 = .ok (.lload_n 2, 1) := by decide +kernel
theorem dB_isPlain_92 : decode cB_isPlain 92 = .ok (.lconst 0, 1) := by decide +kernel
theorem dB_isPlain_93 : decode cB_isPlain 93 = .ok (.lcmp, 1) := by decide +kernel
theorem dB_isPlain_94 : decode cB_isPlain 94 = .ok (.ifCond .ne 7, 3) := by decide +kernel
theorem dB_isPlain_97 : decode cB_isPlain 97 = .ok (.iconst 1, 1) := by decide +kernel
theorem dB_isPlain_98 : decode cB_isPlain 98 = .ok (.goto 4, 3) := by decide +kernel
theorem dB_isPlain_101 : decode cB_isPlain 101 = .ok (.iconst 0, 1) := by decide +kernel
theorem dB_isPlain_102 : decode cB_isPlain 102 = .ok (.ireturn, 1) := by decide +kernel
theorem dB_lid_0 : decode cB_lid 0 = .ok (.iload_n 1, 1) := by decide +kernel
theorem dB_lid_1 : decode cB_lid 1 = .ok (.invokestatic 41, 3) := by decide +kernel
theorem dB_lid_4 : decode cB_lid 4 = .ok (.ifCond .eq 14, 3) := by decide +kernel
theorem dB_lid_7 : decode cB_lid 7 = .ok (.aload_n 0, 1) := by decide +kernel
theorem dB_lid_8 : decode cB_lid 8 = .ok (.invokevirtual 78, 3) := by decide +kernel
theorem dB_lid_11 : decode cB_lid 11 = .ok (.iload_n 1, 1) := by decide +kernel
theorem dB_lid_12 : decode cB_lid 12 = .ok (.invokevirtual 104, 3) := by decide +kernel
theorem dB_lid_15 : decode cB_lid 15 = .ok (.goto 4, 3) := by decide +kernel
theorem dB_lid_18 : decode cB_lid 18 = .ok (.iconst (-1), 1) := by decide +kernel
theorem dB_lid_19 : decode cB_lid 19 = .ok (.ireturn, 1) := by decide +kernel
theorem dS_nearestGate_0 : decode cS_nearestGate 0 = .ok (.aload_n 0, 1) := by decide +kernel
theorem dS_nearestGate_1 : decode cS_nearestGate 1 = .ok (.iload_n 1, 1) := by decide +kernel
theorem dS_nearestGate_2 : decode cS_nearestGate 2 = .ok (.invokevirtual 40, 3) := by decide +kernel
theorem dS_nearestGate_5 : decode cS_nearestGate 5 = .ok (.iload_n 1, 1) := by decide +kernel
theorem dS_nearestGate_6 : decode cS_nearestGate 6 = .ok (.invokestatic 22, 3) := by decide +kernel
theorem dS_nearestGate_9 : decode cS_nearestGate 9 = .ok (.ldc2_w 26, 3) := by decide +kernel
theorem dS_nearestGate_12 : decode cS_nearestGate 12 = .ok (.lxor, 1) := by decide +kernel
theorem dS_nearestGate_13 : decode cS_nearestGate 13 = .ok (.land, 1) := by decide +kernel
theorem dS_nearestGate_14 : decode cS_nearestGate 14 = .ok (.lstore_n 2, 1) := by decide +kernel
theorem dS_nearestGate_15 : decode cS_nearestGate 15 = .ok (.lload_n 2, 1) := by decide +kernel
theorem dS_nearestGate_16 : decode cS_nearestGate 16 = .ok (.lstore 4, 2) := by decide +kernel
theorem dS_nearestGate_18 : decode cS_nearestGate 18 = .ok (.iconst 0, 1) := by decide +kernel
theorem dS_nearestGate_19 : decode cS_nearestGate 19 = .ok (.istore 6, 2) := by decide +kernel
theorem dS_nearestGate_21 : decode cS_nearestGate 21 = .ok (.iload 6, 2) := by decide +kernel
theorem dS_nearestGate_23 : decode cS_nearestGate 23 = .ok (.bipush 40, 2) := by decide +kernel
theorem dS_nearestGate_25 : decode cS_nearestGate 25 = .ok (.if_icmp .ge 30, 3) := by decide +kernel
theorem dS_nearestGate_28 : decode cS_nearestGate 28 = .ok (.lload_n 2, 1) := by decide +kernel
theorem dS_nearestGate_29 : decode cS_nearestGate 29 = .ok (.iload 6, 2) := by decide +kernel
theorem dS_nearestGate_31 : decode cS_nearestGate 31 = .ok (.invokestatic 32, 3) := by decide +kernel
theorem dS_nearestGate_34 : decode cS_nearestGate 34 = .ok (.ifCond .eq 15, 3) := by decide +kernel
theorem dS_nearestGate_37 : decode cS_nearestGate 37 = .ok (.lload 4, 2) := by decide +kernel
theorem dS_nearestGate_39 : decode cS_nearestGate 39 = .ok (.aload_n 0, 1) := by decide +kernel
theorem dS_nearestGate_40 : decode cS_nearestGate 40 = .ok (.getfield 15, 3) := by decide +kernel
theorem dS_nearestGate_43 : decode cS_nearestGate 43 = .ok (.iload 6, 2) := by decide +kernel
theorem dS_nearestGate_45 : decode cS_nearestGate 45 = .ok (.laload, 1) := by decide +kernel
theorem dS_nearestGate_46 : decode cS_nearestGate 46 = .ok (.land, 1) := by decide +kernel
theorem dS_nearestGate_47 : decode cS_nearestGate 47 = .ok (.lstore 4, 2) := by decide +kernel
theorem dS_nearestGate_49 : decode cS_nearestGate 49 = .ok (.iinc 6 1, 3) := by decide +kernel
theorem dS_nearestGate_52 : decode cS_nearestGate 52 = .ok (.goto (-31), 3) := by decide +kernel
theorem dS_nearestGate_55 : decode cS_nearestGate 55 = .ok (.lload 4, 2) := by decide +kernel
theorem dS_nearestGate_57 : decode cS_nearestGate 57 = .ok (.lconst 0, 1) := by decide +kernel
theorem dS_nearestGate_58 : decode cS_nearestGate 58 = .ok (.lcmp, 1) := by decide +kernel
theorem dS_nearestGate_59 : decode cS_nearestGate 59 = .ok (.ifCond .ne 7, 3) := by decide +kernel
theorem dS_nearestGate_62 : decode cS_nearestGate 62 = .ok (.iconst (-1), 1) := by decide +kernel
theorem dS_nearestGate_63 : decode cS_nearestGate 63 = .ok (.goto 8, 3) := by decide +kernel
theorem dS_nearestGate_66 : decode cS_nearestGate 66 = .ok (.lload 4, 2) := by decide +kernel
theorem dS_nearestGate_68 : decode cS_nearestGate 68 = .ok (.invokestatic 36, 3) := by decide +kernel
theorem dS_nearestGate_71 : decode cS_nearestGate 71 = .ok (.ireturn, 1) := by decide +kernel
theorem dS_gates_0 : decode cS_gates 0 = .ok (.lconst 0, 1) := by decide +kernel
theorem dS_gates_1 : decode cS_gates 1 = .ok (.lstore_n 2, 1) := by decide +kernel
theorem dS_gates_2 : decode cS_gates 2 = .ok (.iconst 0, 1) := by decide +kernel
theorem dS_gates_3 : decode cS_gates 3 = .ok (.istore 4, 2) := by decide +kernel
theorem dS_gates_5 : decode cS_gates 5 = .ok (.iload 4, 2) := by decide +kernel
theorem dS_gates_7 : decode cS_gates 7 = .ok (.bipush 40, 2) := by decide +kernel
theorem dS_gates_9 : decode cS_gates 9 = .ok (.if_icmp .ge 31, 3) := by decide +kernel
theorem dS_gates_12 : decode cS_gates 12 = .ok (.aload_n 0, 1) := by decide +kernel
theorem dS_gates_13 : decode cS_gates 13 = .ok (.getfield 15, 3) := by decide +kernel
theorem dS_gates_16 : decode cS_gates 16 = .ok (.iload 4, 2) := by decide +kernel
theorem dS_gates_18 : decode cS_gates 18 = .ok (.laload, 1) := by decide +kernel
theorem dS_gates_19 : decode cS_gates 19 = .ok (.iload_n 1, 1) := by decide +kernel
theorem dS_gates_20 : decode cS_gates 20 = .ok (.invokestatic 32, 3) := by decide +kernel
theorem dS_gates_23 : decode cS_gates 23 = .ok (.ifCond .eq 11, 3) := by decide +kernel
theorem dS_gates_26 : decode cS_gates 26 = .ok (.lload_n 2, 1) := by decide +kernel
theorem dS_gates_27 : decode cS_gates 27 = .ok (.iload 4, 2) := by decide +kernel
theorem dS_gates_29 : decode cS_gates 29 = .ok (.invokestatic 22, 3) := by decide +kernel
theorem dS_gates_32 : decode cS_gates 32 = .ok (.lor, 1) := by decide +kernel
theorem dS_gates_33 : decode cS_gates 33 = .ok (.lstore_n 2, 1) := by decide +kernel
theorem dS_gates_34 : decode cS_gates 34 = .ok (.iinc 4 1, 3) := by decide +kernel
theorem dS_gates_37 : decode cS_gates 37 = .ok (.goto (-32), 3) := by decide +kernel
theorem dS_gates_40 : decode cS_gates 40 = .ok (.lload_n 2, 1) := by decide +kernel
theorem dS_gates_41 : decode cS_gates 41 = .ok (.lreturn, 1) := by decide +kernel
theorem dB_meeting_0 : decode cB_meeting 0 = .ok (.iload_n 1, 1) := by decide +kernel
theorem dB_meeting_1 : decode cB_meeting 1 = .ok (.invokestatic 41, 3) := by decide +kernel
theorem dB_meeting_4 : decode cB_meeting 4 = .ok (.ifCond .eq 14, 3) := by decide +kernel
theorem dB_meeting_7 : decode cB_meeting 7 = .ok (.aload_n 0, 1) := by decide +kernel
theorem dB_meeting_8 : decode cB_meeting 8 = .ok (.invokevirtual 86, 3) := by decide +kernel
theorem dB_meeting_11 : decode cB_meeting 11 = .ok (.iload_n 1, 1) := by decide +kernel
theorem dB_meeting_12 : decode cB_meeting 12 = .ok (.invokevirtual 104, 3) := by decide +kernel
theorem dB_meeting_15 : decode cB_meeting 15 = .ok (.goto 4, 3) := by decide +kernel
theorem dB_meeting_18 : decode cB_meeting 18 = .ok (.iconst (-1), 1) := by decide +kernel
theorem dB_meeting_19 : decode cB_meeting 19 = .ok (.ireturn, 1) := by decide +kernel
theorem dB_set_0 : decode cB_set 0 = .ok (.iload_n 2, 1) := by decide +kernel
theorem dB_set_1 : decode cB_set 1 = .ok (.invokestatic 41, 3) := by decide +kernel
theorem dB_set_4 : decode cB_set 4 = .ok (.ifCond .ne 5, 3) := by decide +kernel
theorem dB_set_7 : decode cB_set 7 = .ok (.lconst 0, 1) := by decide +kernel
theorem dB_set_8 : decode cB_set 8 = .ok (.lreturn, 1) := by decide +kernel
theorem dB_set_9 : decode cB_set 9 = .ok (.iload_n 1, 1) := by decide +kernel
theorem dB_set_10 : decode cB_set 10 = .ok (.tableswitch 92 0 5 #[38, 47, 56, 65, 74, 83], 38) := by decide +kernel
theorem dB_set_48 : decode cB_set 48 = .ok (.aload_n 0, 1) := by decide +kernel
theorem dB_set_49 : decode cB_set 49 = .ok (.invokevirtual 78, 3) := by decide +kernel
theorem dB_set_52 : decode cB_set 52 = .ok (.iload_n 2, 1) := by decide +kernel
theorem dB_set_53 : decode cB_set 53 = .ok (.invokevirtual 108, 3) := by decide +kernel
theorem dB_set_56 : decode cB_set 56 = .ok (.lreturn, 1) := by decide +kernel
theorem dB_set_57 : decode cB_set 57 = .ok (.aload_n 0, 1) := by decide +kernel
theorem dB_set_58 : decode cB_set 58 = .ok (.invokevirtual 86, 3) := by decide +kernel
theorem dB_set_61 : decode cB_set 61 = .ok (.iload_n 2, 1) := by decide +kernel
theorem dB_set_62 : decode cB_set 62 = .ok (.invokevirtual 108, 3) := by decide +kernel
theorem dB_set_65 : decode cB_set 65 = .ok (.lreturn, 1) := by decide +kernel
theorem dB_set_66 : decode cB_set 66 = .ok (.aload_n 0, 1) := by decide +kernel
theorem dB_set_67 : decode cB_set 67 = .ok (.invokevirtual 89, 3) := by decide +kernel
theorem dB_set_70 : decode cB_set 70 = .ok (.iload_n 2, 1) := by decide +kernel
theorem dB_set_71 : decode cB_set 71 = .ok (.invokevirtual 111, 3) := by decide +kernel
theorem dB_set_74 : decode cB_set 74 = .ok (.lreturn, 1) := by decide +kernel
theorem dB_set_75 : decode cB_set 75 = .ok (.aload_n 0, 1) := by decide +kernel
theorem dB_set_76 : decode cB_set 76 = .ok (.invokevirtual 78, 3) := by decide +kernel
theorem dB_set_79 : decode cB_set 79 = .ok (.iload_n 2, 1) := by decide +kernel
theorem dB_set_80 : decode cB_set 80 = .ok (.invokevirtual 114, 3) := by decide +kernel
theorem dB_set_83 : decode cB_set 83 = .ok (.lreturn, 1) := by decide +kernel
theorem dB_set_84 : decode cB_set 84 = .ok (.aload_n 0, 1) := by decide +kernel
theorem dB_set_85 : decode cB_set 85 = .ok (.invokevirtual 86, 3) := by decide +kernel
theorem dB_set_88 : decode cB_set 88 = .ok (.iload_n 2, 1) := by decide +kernel
theorem dB_set_89 : decode cB_set 89 = .ok (.invokevirtual 114, 3) := by decide +kernel
theorem dB_set_92 : decode cB_set 92 = .ok (.lreturn, 1) := by decide +kernel
theorem dB_set_93 : decode cB_set 93 = .ok (.aload_n 0, 1) := by decide +kernel
theorem dB_set_94 : decode cB_set 94 = .ok (.invokevirtual 78, 3) := by decide +kernel
theorem dB_set_97 : decode cB_set 97 = .ok (.iload_n 2, 1) := by decide +kernel
theorem dB_set_98 : decode cB_set 98 = .ok (.invokevirtual 117, 3) := by decide +kernel
theorem dB_set_101 : decode cB_set 101 = .ok (.lreturn, 1) := by decide +kernel
theorem dB_set_102 : decode cB_set 102 = .ok (.lconst 0, 1) := by decide +kernel
theorem dB_set_103 : decode cB_set 103 = .ok (.lreturn, 1) := by decide +kernel
theorem dR_blocksOf_0 : decode cR_blocksOf 0 = .ok (.aload_n 0, 1) := by decide +kernel
theorem dR_blocksOf_1 : decode cR_blocksOf 1 = .ok (.getfield 9, 3) := by decide +kernel
theorem dR_blocksOf_4 : decode cR_blocksOf 4 = .ok (.iload_n 1, 1) := by decide +kernel
theorem dR_blocksOf_5 : decode cR_blocksOf 5 = .ok (.laload, 1) := by decide +kernel
theorem dR_blocksOf_6 : decode cR_blocksOf 6 = .ok (.lreturn, 1) := by decide +kernel
theorem dS_rim_0 : decode cS_rim 0 = .ok (.lconst 0, 1) := by decide +kernel
theorem dS_rim_1 : decode cS_rim 1 = .ok (.lstore_n 2, 1) := by decide +kernel
theorem dS_rim_2 : decode cS_rim 2 = .ok (.iconst 0, 1) := by decide +kernel
theorem dS_rim_3 : decode cS_rim 3 = .ok (.istore 4, 2) := by decide +kernel
theorem dS_rim_5 : decode cS_rim 5 = .ok (.iload 4, 2) := by decide +kernel
theorem dS_rim_7 : decode cS_rim 7 = .ok (.bipush 40, 2) := by decide +kernel
theorem dS_rim_9 : decode cS_rim 9 = .ok (.if_icmp .ge 33, 3) := by decide +kernel
theorem dS_rim_12 : decode cS_rim 12 = .ok (.aload_n 0, 1) := by decide +kernel
theorem dS_rim_13 : decode cS_rim 13 = .ok (.getfield 15, 3) := by decide +kernel
theorem dS_rim_16 : decode cS_rim 16 = .ok (.iload_n 1, 1) := by decide +kernel
theorem dS_rim_17 : decode cS_rim 17 = .ok (.laload, 1) := by decide +kernel
theorem dS_rim_18 : decode cS_rim 18 = .ok (.iload 4, 2) := by decide +kernel
theorem dS_rim_20 : decode cS_rim 20 = .ok (.invokestatic 32, 3) := by decide +kernel
theorem dS_rim_23 : decode cS_rim 23 = .ok (.ifCond .eq 13, 3) := by decide +kernel
theorem dS_rim_26 : decode cS_rim 26 = .ok (.lload_n 2, 1) := by decide +kernel
theorem dS_rim_27 : decode cS_rim 27 = .ok (.aload_n 0, 1) := by decide +kernel
theorem dS_rim_28 : decode cS_rim 28 = .ok (.getfield 9, 3) := by decide +kernel
theorem dS_rim_31 : decode cS_rim 31 = .ok (.iload 4, 2) := by decide +kernel
theorem dS_rim_33 : decode cS_rim 33 = .ok (.laload, 1) := by decide +kernel
theorem dS_rim_34 : decode cS_rim 34 = .ok (.lor, 1) := by decide +kernel
theorem dS_rim_35 : decode cS_rim 35 = .ok (.lstore_n 2, 1) := by decide +kernel
theorem dS_rim_36 : decode cS_rim 36 = .ok (.iinc 4 1, 3) := by decide +kernel
theorem dS_rim_39 : decode cS_rim 39 = .ok (.goto (-34), 3) := by decide +kernel
theorem dS_rim_42 : decode cS_rim 42 = .ok (.lload_n 2, 1) := by decide +kernel
theorem dS_rim_43 : decode cS_rim 43 = .ok (.aload_n 0, 1) := by decide +kernel
theorem dS_rim_44 : decode cS_rim 44 = .ok (.getfield 18, 3) := by decide +kernel
theorem dS_rim_47 : decode cS_rim 47 = .ok (.land, 1) := by decide +kernel
theorem dS_rim_48 : decode cS_rim 48 = .ok (.aload_n 0, 1) := by decide +kernel
theorem dS_rim_49 : decode cS_rim 49 = .ok (.getfield 15, 3) := by decide +kernel
theorem dS_rim_52 : decode cS_rim 52 = .ok (.iload_n 1, 1) := by decide +kernel
theorem dS_rim_53 : decode cS_rim 53 = .ok (.laload, 1) := by decide +kernel
theorem dS_rim_54 : decode cS_rim 54 = .ok (.iload_n 1, 1) := by decide +kernel
theorem dS_rim_55 : decode cS_rim 55 = .ok (.invokestatic 22, 3) := by decide +kernel
theorem dS_rim_58 : decode cS_rim 58 = .ok (.ldc2_w 26, 3) := by decide +kernel
theorem dS_rim_61 : decode cS_rim 61 = .ok (.lxor, 1) := by decide +kernel
theorem dS_rim_62 : decode cS_rim 62 = .ok (.land, 1) := by decide +kernel
theorem dS_rim_63 : decode cS_rim 63 = .ok (.ldc2_w 26, 3) := by decide +kernel
theorem dS_rim_66 : decode cS_rim 66 = .ok (.lxor, 1) := by decide +kernel
theorem dS_rim_67 : decode cS_rim 67 = .ok (.land, 1) := by decide +kernel
theorem dS_rim_68 : decode cS_rim 68 = .ok (.lreturn, 1) := by decide +kernel
theorem dB_depth_0 : decode cB_depth 0 = .ok (.iload_n 1, 1) := by decide +kernel
theorem dB_depth_1 : decode cB_depth 1 = .ok (.invokestatic 41, 3) := by decide +kernel
theorem dB_depth_4 : decode cB_depth 4 = .ok (.ifCond .eq 17, 3) := by decide +kernel
theorem dB_depth_7 : decode cB_depth 7 = .ok (.aload_n 0, 1) := by decide +kernel
theorem dB_depth_8 : decode cB_depth 8 = .ok (.invokevirtual 78, 3) := by decide +kernel
theorem dB_depth_11 : decode cB_depth 11 = .ok (.invokevirtual 82, 3) := by decide +kernel
theorem dB_depth_14 : decode cB_depth 14 = .ok (.iload_n 1, 1) := by decide +kernel
theorem dB_depth_15 : decode cB_depth 15 = .ok (.invokestatic 45, 3) := by decide +kernel
theorem dB_depth_18 : decode cB_depth 18 = .ok (.ifCond .ne 5, 3) := by decide +kernel
theorem dB_depth_21 : decode cB_depth 21 = .ok (.iconst (-1), 1) := by decide +kernel
theorem dB_depth_22 : decode cB_depth 22 = .ok (.ireturn, 1) := by decide +kernel
theorem dB_depth_23 : decode cB_depth 23 = .ok (.aload_n 0, 1) := by decide +kernel
theorem dB_depth_24 : decode cB_depth 24 = .ok (.invokevirtual 89, 3) := by decide +kernel
theorem dB_depth_27 : decode cB_depth 27 = .ok (.iload_n 1, 1) := by decide +kernel
theorem dB_depth_28 : decode cB_depth 28 = .ok (.invokevirtual 120, 3) := by decide +kernel
theorem dB_depth_31 : decode cB_depth 31 = .ok (.ireturn, 1) := by decide +kernel
theorem dB_joins_0 : decode cB_joins 0 = .ok (.aload_n 0, 1) := by decide +kernel
theorem dB_joins_1 : decode cB_joins 1 = .ok (.invokevirtual 78, 3) := by decide +kernel
theorem dB_joins_4 : decode cB_joins 4 = .ok (.astore_n 3, 1) := by decide +kernel
theorem dB_joins_5 : decode cB_joins 5 = .ok (.lload_n 1, 1) := by decide +kernel
theorem dB_joins_6 : decode cB_joins 6 = .ok (.aload_n 3, 1) := by decide +kernel
theorem dB_joins_7 : decode cB_joins 7 = .ok (.invokevirtual 82, 3) := by decide +kernel
theorem dB_joins_10 : decode cB_joins 10 = .ok (.land, 1) := by decide +kernel
theorem dB_joins_11 : decode cB_joins 11 = .ok (.lstore 4, 2) := by decide +kernel
theorem dB_joins_13 : decode cB_joins 13 = .ok (.lload 4, 2) := by decide +kernel
theorem dB_joins_15 : decode cB_joins 15 = .ok (.lstore 6, 2) := by decide +kernel
theorem dB_joins_17 : decode cB_joins 17 = .ok (.lconst 0, 1) := by decide +kernel
theorem dB_joins_18 : decode cB_joins 18 = .ok (.lstore 8, 2) := by decide +kernel
theorem dB_joins_20 : decode cB_joins 20 = .ok (.lload 4, 2) := by decide +kernel
theorem dB_joins_22 : decode cB_joins 22 = .ok (.invokestatic 133, 3) := by decide +kernel
theorem dB_joins_25 : decode cB_joins 25 = .ok (.istore 10, 2) := by decide +kernel
theorem dB_joins_27 : decode cB_joins 27 = .ok (.iconst 0, 1) := by decide +kernel
theorem dB_joins_28 : decode cB_joins 28 = .ok (.istore 11, 2) := by decide +kernel
theorem dB_joins_30 : decode cB_joins 30 = .ok (.iload 11, 2) := by decide +kernel
theorem dB_joins_32 : decode cB_joins 32 = .ok (.bipush 40, 2) := by decide +kernel
theorem dB_joins_34 : decode cB_joins 34 = .ok (.if_icmp .ge 69, 3) := by decide +kernel
theorem dB_joins_37 : decode cB_joins 37 = .ok (.iload 10, 2) := by decide +kernel
theorem dB_joins_39 : decode cB_joins 39 = .ok (.bipush 40, 2) := by decide +kernel
theorem dB_joins_41 : decode cB_joins 41 = .ok (.if_icmp .ge 62, 3) := by decide +kernel
theorem dB_joins_44 : decode cB_joins 44 = .ok (.aload_n 3, 1) := by decide +kernel
theorem dB_joins_45 : decode cB_joins 45 = .ok (.iload 10, 2) := by decide +kernel
theorem dB_joins_47 : decode cB_joins 47 = .ok (.invokevirtual 114, 3) := by decide +kernel
theorem dB_joins_50 : decode cB_joins 50 = .ok (.lstore 12, 2) := by decide +kernel
theorem dB_joins_52 : decode cB_joins 52 = .ok (.lload 8, 2) := by decide +kernel
theorem dB_joins_54 : decode cB_joins 54 = .ok (.lload 12, 2) := by decide +kernel
theorem dB_joins_56 : decode cB_joins 56 = .ok (.lor, 1) := by decide +kernel
theorem dB_joins_57 : decode cB_joins 57 = .ok (.lstore 8, 2) := by decide +kernel
theorem dB_joins_59 : decode cB_joins 59 = .ok (.lload 4, 2) := by decide +kernel
theorem dB_joins_61 : decode cB_joins 61 = .ok (.iload 10, 2) := by decide +kernel
theorem dB_joins_63 : decode cB_joins 63 = .ok (.invokestatic 49, 3) := by decide +kernel
theorem dB_joins_66 : decode cB_joins 66 = .ok (.ldc2_w 63, 3) := by decide +kernel
theorem dB_joins_69 : decode cB_joins 69 = .ok (.lxor, 1) := by decide +kernel
theorem dB_joins_70 : decode cB_joins 70 = .ok (.land, 1) := by decide +kernel
theorem dB_joins_71 : decode cB_joins 71 = .ok (.lload 12, 2) := by decide +kernel
theorem dB_joins_73 : decode cB_joins 73 = .ok (.lload 6, 2) := by decide +kernel
theorem dB_joins_75 : decode cB_joins 75 = .ok (.ldc2_w 63, 3) := by decide +kernel
theorem dB_joins_78 : decode cB_joins 78 = .ok (.lxor, 1) := by decide +kernel
theorem dB_joins_79 : decode cB_joins 79 = .ok (.land, 1) := by decide +kernel
theorem dB_joins_80 : decode cB_joins 80 = .ok (.lor, 1) := by decide +kernel
theorem dB_joins_81 : decode cB_joins 81 = .ok (.lstore 4, 2) := by decide +kernel
theorem dB_joins_83 : decode cB_joins 83 = .ok (.lload 6, 2) := by decide +kernel
theorem dB_joins_85 : decode cB_joins 85 = .ok (.lload 12, 2) := by decide +kernel
theorem dB_joins_87 : decode cB_joins 87 = .ok (.lor, 1) := by decide +kernel
theorem dB_joins_88 : decode cB_joins 88 = .ok (.lstore 6, 2) := by decide +kernel
theorem dB_joins_90 : decode cB_joins 90 = .ok (.lload 4, 2) := by decide +kernel
theorem dB_joins_92 : decode cB_joins 92 = .ok (.invokestatic 133, 3) := by decide +kernel
theorem dB_joins_95 : decode cB_joins 95 = .ok (.istore 10, 2) := by decide +kernel
theorem dB_joins_97 : decode cB_joins 97 = .ok (.iinc 11 1, 3) := by decide +kernel
theorem dB_joins_100 : decode cB_joins 100 = .ok (.goto (-70), 3) := by decide +kernel
theorem dB_joins_103 : decode cB_joins 103 = .ok (.lload 8, 2) := by decide +kernel
theorem dB_joins_105 : decode cB_joins 105 = .ok (.lreturn, 1) := by decide +kernel
theorem dL_inner_0 : decode cL_inner 0 = .ok (.aload_n 2, 1) := by decide +kernel
theorem dL_inner_1 : decode cL_inner 1 = .ok (.iconst 0, 1) := by decide +kernel
theorem dL_inner_2 : decode cL_inner 2 = .ok (.aload_n 0, 1) := by decide +kernel
theorem dL_inner_3 : decode cL_inner 3 = .ok (.iload_n 1, 1) := by decide +kernel
theorem dL_inner_4 : decode cL_inner 4 = .ok (.invokevirtual 7, 3) := by decide +kernel
theorem dL_inner_7 : decode cL_inner 7 = .ok (.i2l, 1) := by decide +kernel
theorem dL_inner_8 : decode cL_inner 8 = .ok (.lastore, 1) := by decide +kernel
theorem dL_inner_9 : decode cL_inner 9 = .ok (.goto 6, 3) := by decide +kernel
theorem dL_inner_12 : decode cL_inner 12 = .ok (.astore_n 3, 1) := by decide +kernel
theorem dL_inner_13 : decode cL_inner 13 = .ok (.iconst 1, 1) := by decide +kernel
theorem dL_inner_14 : decode cL_inner 14 = .ok (.ireturn, 1) := by decide +kernel
theorem dL_inner_15 : decode cL_inner 15 = .ok (.iconst 0, 1) := by decide +kernel
theorem dL_inner_16 : decode cL_inner 16 = .ok (.ireturn, 1) := by decide +kernel
theorem dB_inner_0 : decode cB_inner 0 = .ok (.iload_n 1, 1) := by decide +kernel
theorem dB_inner_1 : decode cB_inner 1 = .ok (.invokestatic 41, 3) := by decide +kernel
theorem dB_inner_4 : decode cB_inner 4 = .ok (.ifCond .eq 14, 3) := by decide +kernel
theorem dB_inner_7 : decode cB_inner 7 = .ok (.aload_n 0, 1) := by decide +kernel
theorem dB_inner_8 : decode cB_inner 8 = .ok (.invokevirtual 89, 3) := by decide +kernel
theorem dB_inner_11 : decode cB_inner 11 = .ok (.iload_n 1, 1) := by decide +kernel
theorem dB_inner_12 : decode cB_inner 12 = .ok (.invokevirtual 123, 3) := by decide +kernel
theorem dB_inner_15 : decode cB_inner 15 = .ok (.goto 4, 3) := by decide +kernel
theorem dB_inner_18 : decode cB_inner 18 = .ok (.iconst (-1), 1) := by decide +kernel
theorem dB_inner_19 : decode cB_inner 19 = .ok (.istore_n 2, 1) := by decide +kernel
theorem dB_inner_20 : decode cB_inner 20 = .ok (.iload_n 2, 1) := by decide +kernel
theorem dB_inner_21 : decode cB_inner 21 = .ok (.iconst (-1), 1) := by decide +kernel
theorem dB_inner_22 : decode cB_inner 22 = .ok (.if_icmp .ne 13, 3) := by decide +kernel
theorem dB_inner_25 : decode cB_inner 25 = .ok (.new 126, 3) := by decide +kernel
theorem dB_inner_28 : decode cB_inner 28 = .ok (.dup, 1) := by decide +kernel
theorem dB_inner_29 : decode cB_inner 29 = .ok (.ldc 128, 2) := by decide +kernel
theorem dB_inner_31 : decode cB_inner 31 = .ok (.invokespecial 130, 3) := by decide +kernel
theorem dB_inner_34 : decode cB_inner 34 = .ok (.athrow, 1) := by decide +kernel
theorem dB_inner_35 : decode cB_inner 35 = .ok (.iload_n 2, 1) := by decide +kernel
theorem dB_inner_36 : decode cB_inner 36 = .ok (.ireturn, 1) := by decide +kernel
theorem dR_smallestAround_0 : decode cR_smallestAround 0 = .ok (.iconst (-1), 1) := by decide +kernel
theorem dR_smallestAround_1 : decode cR_smallestAround 1 = .ok (.istore_n 2, 1) := by decide +kernel
theorem dR_smallestAround_2 : decode cR_smallestAround 2 = .ok (.bipush 41, 2) := by decide +kernel
theorem dR_smallestAround_4 : decode cR_smallestAround 4 = .ok (.istore_n 3, 1) := by decide +kernel
theorem dR_smallestAround_5 : decode cR_smallestAround 5 = .ok (.iconst 0, 1) := by decide +kernel
theorem dR_smallestAround_6 : decode cR_smallestAround 6 = .ok (.istore 4, 2) := by decide +kernel
theorem dR_smallestAround_8 : decode cR_smallestAround 8 = .ok (.iload 4, 2) := by decide +kernel
theorem dR_smallestAround_10 : decode cR_smallestAround 10 = .ok (.bipush 40, 2) := by decide +kernel
theorem dR_smallestAround_12 : decode cR_smallestAround 12 = .ok (.if_icmp .ge 47, 3) := by decide +kernel
theorem dR_smallestAround_15 : decode cR_smallestAround 15 = .ok (.aload_n 0, 1) := by decide +kernel
theorem dR_smallestAround_16 : decode cR_smallestAround 16 = .ok (.getfield 9, 3) := by decide +kernel
theorem dR_smallestAround_19 : decode cR_smallestAround 19 = .ok (.iload 4, 2) := by decide +kernel
theorem dR_smallestAround_21 : decode cR_smallestAround 21 = .ok (.laload, 1) := by decide +kernel
theorem dR_smallestAround_22 : decode cR_smallestAround 22 = .ok (.invokestatic 51, 3) := by decide +kernel
theorem dR_smallestAround_25 : decode cR_smallestAround 25 = .ok (.istore 5, 2) := by decide +kernel
theorem dR_smallestAround_27 : decode cR_smallestAround 27 = .ok (.aload_n 0, 1) := by decide +kernel
theorem dR_smallestAround_28 : decode cR_smallestAround 28 = .ok (.getfield 9, 3) := by decide +kernel
theorem dR_smallestAround_31 : decode cR_smallestAround 31 = .ok (.iload 4, 2) := by decide +kernel
theorem dR_smallestAround_33 : decode cR_smallestAround 33 = .ok (.laload, 1) := by decide +kernel
theorem dR_smallestAround_34 : decode cR_smallestAround 34 = .ok (.iload_n 1, 1) := by decide +kernel
theorem dR_smallestAround_35 : decode cR_smallestAround 35 = .ok (.invokestatic 37, 3) := by decide +kernel
theorem dR_smallestAround_38 : decode cR_smallestAround 38 = .ok (.ifCond .eq 15, 3) := by decide +kernel
theorem dR_smallestAround_41 : decode cR_smallestAround 41 = .ok (.iload 5, 2) := by decide +kernel
theorem dR_smallestAround_43 : decode cR_smallestAround 43 = .ok (.iload_n 3, 1) := by decide +kernel
theorem dR_smallestAround_44 : decode cR_smallestAround 44 = .ok (.if_icmp .ge 9, 3) := by decide +kernel
theorem dR_smallestAround_47 : decode cR_smallestAround 47 = .ok (.iload 4, 2) := by decide +kernel
theorem dR_smallestAround_49 : decode cR_smallestAround 49 = .ok (.istore_n 2, 1) := by decide +kernel
theorem dR_smallestAround_50 : decode cR_smallestAround 50 = .ok (.iload 5, 2) := by decide +kernel
theorem dR_smallestAround_52 : decode cR_smallestAround 52 = .ok (.istore_n 3, 1) := by decide +kernel
theorem dR_smallestAround_53 : decode cR_smallestAround 53 = .ok (.iinc 4 1, 3) := by decide +kernel
theorem dR_smallestAround_56 : decode cR_smallestAround 56 = .ok (.goto (-48), 3) := by decide +kernel
theorem dR_smallestAround_59 : decode cR_smallestAround 59 = .ok (.iload_n 2, 1) := by decide +kernel
theorem dR_smallestAround_60 : decode cR_smallestAround 60 = .ok (.ireturn, 1) := by decide +kernel
theorem dM_init_0 : decode cM_init 0 = .ok (.aload_n 0, 1) := by decide +kernel
theorem dM_init_1 : decode cM_init 1 = .ok (.invokespecial 1, 3) := by decide +kernel
theorem dM_init_4 : decode cM_init 4 = .ok (.aload_n 0, 1) := by decide +kernel
theorem dM_init_5 : decode cM_init 5 = .ok (.bipush 40, 2) := by decide +kernel
theorem dM_init_7 : decode cM_init 7 = .ok (.newarray .int, 2) := by decide +kernel
theorem dM_init_9 : decode cM_init 9 = .ok (.putfield 7, 3) := by decide +kernel
theorem dM_init_12 : decode cM_init 12 = .ok (.aload_n 0, 1) := by decide +kernel
theorem dM_init_13 : decode cM_init 13 = .ok (.sipush 160, 3) := by decide +kernel
theorem dM_init_16 : decode cM_init 16 = .ok (.newarray .int, 2) := by decide +kernel
theorem dM_init_18 : decode cM_init 18 = .ok (.putfield 13, 3) := by decide +kernel
theorem dM_init_21 : decode cM_init 21 = .ok (.aload_n 0, 1) := by decide +kernel
theorem dM_init_22 : decode cM_init 22 = .ok (.bipush 40, 2) := by decide +kernel
theorem dM_init_24 : decode cM_init 24 = .ok (.newarray .long, 2) := by decide +kernel
theorem dM_init_26 : decode cM_init 26 = .ok (.putfield 16, 3) := by decide +kernel
theorem dM_init_29 : decode cM_init 29 = .ok (.aload_n 0, 1) := by decide +kernel
theorem dM_init_30 : decode cM_init 30 = .ok (.bipush 40, 2) := by decide +kernel
theorem dM_init_32 : decode cM_init 32 = .ok (.newarray .long, 2) := by decide +kernel
theorem dM_init_34 : decode cM_init 34 = .ok (.putfield 20, 3) := by decide +kernel
theorem dM_init_37 : decode cM_init 37 = .ok (.aload_n 0, 1) := by decide +kernel
theorem dM_init_38 : decode cM_init 38 = .ok (.bipush 40, 2) := by decide +kernel
theorem dM_init_40 : decode cM_init 40 = .ok (.newarray .long, 2) := by decide +kernel
theorem dM_init_42 : decode cM_init 42 = .ok (.putfield 23, 3) := by decide +kernel
theorem dM_init_45 : decode cM_init 45 = .ok (.aload_n 0, 1) := by decide +kernel
theorem dM_init_46 : decode cM_init 46 = .ok (.bipush 40, 2) := by decide +kernel
theorem dM_init_48 : decode cM_init 48 = .ok (.newarray .long, 2) := by decide +kernel
theorem dM_init_50 : decode cM_init 50 = .ok (.putfield 26, 3) := by decide +kernel
theorem dM_init_53 : decode cM_init 53 = .ok (.aload_n 0, 1) := by decide +kernel
theorem dM_init_54 : decode cM_init 54 = .ok (.bipush 40, 2) := by decide +kernel
theorem dM_init_56 : decode cM_init 56 = .ok (.newarray .long, 2) := by decide +kernel
theorem dM_init_58 : decode cM_init 58 = .ok (.putfield 29, 3) := by decide +kernel
theorem dM_init_61 : decode cM_init 61 = .ok (.return_, 1) := by decide +kernel
theorem dM_thrown_0 : decode cM_thrown 0 = .ok (.aload_n 0, 1) := by decide +kernel
theorem dM_thrown_1 : decode cM_thrown 1 = .ok (.getfield 32, 3) := by decide +kernel
theorem dM_thrown_4 : decode cM_thrown 4 = .ok (.ireturn, 1) := by decide +kernel
theorem dM_block_0 : decode cM_block 0 = .ok (.aload_n 0, 1) := by decide +kernel
theorem dM_block_1 : decode cM_block 1 = .ok (.iconst 0, 1) := by decide +kernel
theorem dM_block_2 : decode cM_block 2 = .ok (.putfield 32, 3) := by decide +kernel
theorem dM_block_5 : decode cM_block 5 = .ok (.iload_n 1, 1) := by decide +kernel
theorem dM_block_6 : decode cM_block 6 = .ok (.invokestatic 40, 3) := by decide +kernel
theorem dM_block_9 : decode cM_block 9 = .ok (.ifCond .eq 14, 3) := by decide +kernel
theorem dM_block_12 : decode cM_block 12 = .ok (.aload_n 0, 1) := by decide +kernel
theorem dM_block_13 : decode cM_block 13 = .ok (.getfield 44, 3) := by decide +kernel
theorem dM_block_16 : decode cM_block 16 = .ok (.iload_n 1, 1) := by decide +kernel
theorem dM_block_17 : decode cM_block 17 = .ok (.invokestatic 36, 3) := by decide +kernel
theorem dM_block_20 : decode cM_block 20 = .ok (.ifCond .eq 5, 3) := by decide +kernel
theorem dM_block_23 : decode cM_block 23 = .ok (.iconst 0, 1) := by decide +kernel
theorem dM_block_24 : decode cM_block 24 = .ok (.ireturn, 1) := by decide +kernel
theorem dM_block_25 : decode cM_block 25 = .ok (.aload_n 0, 1) := by decide +kernel
theorem dM_block_26 : decode cM_block 26 = .ok (.aload_n 0, 1) := by decide +kernel
theorem dM_block_27 : decode cM_block 27 = .ok (.getfield 44, 3) := by decide +kernel
theorem dM_block_30 : decode cM_block 30 = .ok (.iload_n 1, 1) := by decide +kernel
theorem dM_block_31 : decode cM_block 31 = .ok (.invokestatic 48, 3) := by decide +kernel
theorem dM_block_34 : decode cM_block 34 = .ok (.lor, 1) := by decide +kernel
theorem dM_block_35 : decode cM_block 35 = .ok (.putfield 44, 3) := by decide +kernel
theorem dM_block_38 : decode cM_block 38 = .ok (.aload_n 0, 1) := by decide +kernel
theorem dM_block_39 : decode cM_block 39 = .ok (.getfield 7, 3) := by decide +kernel
theorem dM_block_42 : decode cM_block 42 = .ok (.iload_n 1, 1) := by decide +kernel
theorem dM_block_43 : decode cM_block 43 = .ok (.iconst 0, 1) := by decide +kernel
theorem dM_block_44 : decode cM_block 44 = .ok (.iastore, 1) := by decide +kernel
theorem dM_block_45 : decode cM_block 45 = .ok (.aload_n 0, 1) := by decide +kernel
theorem dM_block_46 : decode cM_block 46 = .ok (.iconst 0, 1) := by decide +kernel
theorem dM_block_47 : decode cM_block 47 = .ok (.putfield 52, 3) := by decide +kernel
theorem dM_block_50 : decode cM_block 50 = .ok (.iconst 1, 1) := by decide +kernel
theorem dM_block_51 : decode cM_block 51 = .ok (.ireturn, 1) := by decide +kernel
theorem dM_isBlock_0 : decode cM_isBlock 0 = .ok (.iload_n 0, 1) := by decide +kernel
theorem dM_isBlock_1 : decode cM_isBlock 1 = .ok (.ifCond .lt 13, 3) := by decide +kernel
theorem dM_isBlock_4 : decode cM_isBlock 4 = .ok (.iload_n 0, 1) := by decide +kernel
theorem dM_isBlock_5 : decode cM_isBlock 5 = .ok (.bipush 40, 2) := by decide +kernel
theorem dM_isBlock_7 : decode cM_isBlock 7 = .ok (.if_icmp .ge 7, 3) := by decide +kernel
theorem dM_isBlock_10 : decode cM_isBlock 10 = .ok (.iconst 1, 1) := by decide +kernel
theorem dM_isBlock_11 : decode cM_isBlock 11 = .ok (.goto 4, 3) := by decide +kernel
theorem dM_isBlock_14 : decode cM_isBlock 14 = .ok (.iconst 0, 1) := by decide +kernel
theorem dM_isBlock_15 : decode cM_isBlock 15 = .ok (.ireturn, 1) := by decide +kernel
theorem dM_is_0 : decode cM_is 0 = .ok (.lload_n 0, 1) := by decide +kernel
theorem dM_is_1 : decode cM_is 1 = .ok (.iload_n 2, 1) := by decide +kernel
theorem dM_is_2 : decode cM_is 2 = .ok (.lshr, 1) := by decide +kernel
theorem dM_is_3 : decode cM_is 3 = .ok (.lconst 1, 1) := by decide +kernel
theorem dM_is_4 : decode cM_is 4 = .ok (.land, 1) := by decide +kernel
theorem dM_is_5 : decode cM_is 5 = .ok (.lconst 1, 1) := by decide +kernel
theorem dM_is_6 : decode cM_is 6 = .ok (.lcmp, 1) := by decide +kernel
theorem dM_is_7 : decode cM_is 7 = .ok (.ifCond .ne 7, 3) := by decide +kernel
theorem dM_is_10 : decode cM_is 10 = .ok (.iconst 1, 1) := by decide +kernel
theorem dM_is_11 : decode cM_is 11 = .ok (.goto 4, 3) := by decide +kernel
theorem dM_is_14 : decode cM_is 14 = .ok (.iconst 0, 1) := by decide +kernel
theorem dM_is_15 : decode cM_is 15 = .ok (.ireturn, 1) := by decide +kernel
theorem dM_bit_0 : decode cM_bit 0 = .ok (.lconst 1, 1) := by decide +kernel
theorem dM_bit_1 : decode cM_bit 1 = .ok (.iload_n 0, 1) := by decide +kernel
theorem dM_bit_2 : decode cM_bit 2 = .ok (.lshl, 1) := by decide +kernel
theorem dM_bit_3 : decode cM_bit 3 = .ok (.lreturn, 1) := by decide +kernel
theorem dM_target_0 : decode cM_target 0 = .ok (.aload_n 0, 1) := by decide +kernel
theorem dM_target_1 : decode cM_target 1 = .ok (.iconst 0, 1) := by decide +kernel
theorem dM_target_2 : decode cM_target 2 = .ok (.putfield 32, 3) := by decide +kernel
theorem dM_target_5 : decode cM_target 5 = .ok (.iload_n 1, 1) := by decide +kernel
theorem dM_target_6 : decode cM_target 6 = .ok (.invokestatic 40, 3) := by decide +kernel
theorem dM_target_9 : decode cM_target 9 = .ok (.ifCond .eq 31, 3) := by decide +kernel
theorem dM_target_12 : decode cM_target 12 = .ok (.iload_n 2, 1) := by decide +kernel
theorem dM_target_13 : decode cM_target 13 = .ok (.invokestatic 40, 3) := by decide +kernel
theorem dM_target_16 : decode cM_target 16 = .ok (.ifCond .eq 24, 3) := by decide +kernel
theorem dM_target_19 : decode cM_target 19 = .ok (.aload_n 0, 1) := by decide +kernel
theorem dM_target_20 : decode cM_target 20 = .ok (.getfield 44, 3) := by decide +kernel
theorem dM_target_23 : decode cM_target 23 = .ok (.iload_n 1, 1) := by decide +kernel
theorem dM_target_24 : decode cM_target 24 = .ok (.invokestatic 36, 3) := by decide +kernel
theorem dM_target_27 : decode cM_target 27 = .ok (.ifCond .eq 13, 3) := by decide +kernel
theorem dM_target_30 : decode cM_target 30 = .ok (.aload_n 0, 1) := by decide +kernel
theorem dM_target_31 : decode cM_target 31 = .ok (.getfield 7, 3) := by decide +kernel
theorem dM_target_34 : decode cM_target 34 = .ok (.iload_n 1, 1) := by decide +kernel
theorem dM_target_35 : decode cM_target 35 = .ok (.iaload, 1) := by decide +kernel
theorem dM_target_36 : decode cM_target 36 = .ok (.iconst 4, 1) := by decide +kernel
theorem dM_target_37 : decode cM_target 37 = .ok (.if_icmp .ne 5, 3) := by decide +kernel
theorem dM_target_40 : decode cM_target 40 = .ok (.iconst 0, 1) := by decide +kernel
theorem dM_target_41 : decode cM_target 41 = .ok (.ireturn, 1) := by decide +kernel
theorem dM_target_42 : decode cM_target 42 = .ok (.aload_n 0, 1) := by decide +kernel
theorem dM_target_43 : decode cM_target 43 = .ok (.getfield 13, 3) := by decide +kernel
theorem dM_target_46 : decode cM_target 46 = .ok (.iconst 4, 1) := by decide +kernel
theorem dM_target_47 : decode cM_target 47 = .ok (.iload_n 1, 1) := by decide +kernel
theorem dM_target_48 : decode cM_target 48 = .ok (.imul, 1) := by decide +kernel
theorem dM_target_49 : decode cM_target 49 = .ok (.aload_n 0, 1) := by decide +kernel
theorem dM_target_50 : decode cM_target 50 = .ok (.getfield 7, 3) := by decide +kernel
theorem dM_target_53 : decode cM_target 53 = .ok (.iload_n 1, 1) := by decide +kernel
theorem dM_target_54 : decode cM_target 54 = .ok (.iaload, 1) := by decide +kernel
theorem dM_target_55 : decode cM_target 55 = .ok (.iadd, 1) := by decide +kernel
theorem dM_target_56 : decode cM_target 56 = .ok (.iload_n 2, 1) := by decide +kernel
theorem dM_target_57 : decode cM_target 57 = .ok (.iastore, 1) := by decide +kernel
theorem dM_target_58 : decode cM_target 58 = .ok (.aload_n 0, 1) := by decide +kernel
theorem dM_target_59 : decode cM_target 59 = .ok (.getfield 7, 3) := by decide +kernel
theorem dM_target_62 : decode cM_target 62 = .ok (.iload_n 1, 1) := by decide +kernel
theorem dM_target_63 : decode cM_target 63 = .ok (.dup2, 1) := by decide +kernel
theorem dM_target_64 : decode cM_target 64 = .ok (.iaload, 1) := by decide +kernel
theorem dM_target_65 : decode cM_target 65 = .ok (.iconst 1, 1) := by decide +kernel
theorem dM_target_66 : decode cM_target 66 = .ok (.iadd, 1) := by decide +kernel
theorem dM_target_67 : decode cM_target 67 = .ok (.iastore, 1) := by decide +kernel
theorem dM_target_68 : decode cM_target 68 = .ok (.aload_n 0, 1) := by decide +kernel
theorem dM_target_69 : decode cM_target 69 = .ok (.iconst 0, 1) := by decide +kernel
theorem dM_target_70 : decode cM_target 70 = .ok (.putfield 52, 3) := by decide +kernel
theorem dM_target_73 : decode cM_target 73 = .ok (.iconst 1, 1) := by decide +kernel
theorem dM_target_74 : decode cM_target 74 = .ok (.ireturn, 1) := by decide +kernel
theorem dM_drop_0 : decode cM_drop 0 = .ok (.aload_n 0, 1) := by decide +kernel
theorem dM_drop_1 : decode cM_drop 1 = .ok (.iconst 0, 1) := by decide +kernel
theorem dM_drop_2 : decode cM_drop 2 = .ok (.putfield 32, 3) := by decide +kernel
theorem dM_drop_5 : decode cM_drop 5 = .ok (.iload_n 1, 1) := by decide +kernel
theorem dM_drop_6 : decode cM_drop 6 = .ok (.invokestatic 40, 3) := by decide +kernel
theorem dM_drop_9 : decode cM_drop 9 = .ok (.ifCond .eq 14, 3) := by decide +kernel
theorem dM_drop_12 : decode cM_drop 12 = .ok (.aload_n 0, 1) := by decide +kernel
theorem dM_drop_13 : decode cM_drop 13 = .ok (.getfield 44, 3) := by decide +kernel
theorem dM_drop_16 : decode cM_drop 16 = .ok (.iload_n 1, 1) := by decide +kernel
theorem dM_drop_17 : decode cM_drop 17 = .ok (.invokestatic 36, 3) := by decide +kernel
theorem dM_drop_20 : decode cM_drop 20 = .ok (.ifCond .ne 5, 3) := by decide +kernel
theorem dM_drop_23 : decode cM_drop 23 = .ok (.iconst 0, 1) := by decide +kernel
theorem dM_drop_24 : decode cM_drop 24 = .ok (.ireturn, 1) := by decide +kernel
theorem dM_drop_25 : decode cM_drop 25 = .ok (.aload_n 0, 1) := by decide +kernel
theorem dM_drop_26 : decode cM_drop 26 = .ok (.aload_n 0, 1) := by decide +kernel
theorem dM_drop_27 : decode cM_drop 27 = .ok (.getfield 44, 3) := by decide +kernel
theorem dM_drop_30 : decode cM_drop 30 = .ok (.iload_n 1, 1) := by decide +kernel
theorem dM_drop_31 : decode cM_drop 31 = .ok (.invokestatic 48, 3) := by decide +kernel
theorem dM_drop_34 : decode cM_drop 34 = .ok (.ldc2_w 56, 3) := by decide +kernel
theorem dM_drop_37 : decode cM_drop 37 = .ok (.lxor, 1) := by decide +kernel
theorem dM_drop_38 : decode cM_drop 38 = .ok (.land, 1) := by decide +kernel
theorem dM_drop_39 : decode cM_drop 39 = .ok (.putfield 44, 3) := by decide +kernel
theorem dM_drop_42 : decode cM_drop 42 = .ok (.aload_n 0, 1) := by decide +kernel
theorem dM_drop_43 : decode cM_drop 43 = .ok (.iconst 0, 1) := by decide +kernel
theorem dM_drop_44 : decode cM_drop 44 = .ok (.putfield 52, 3) := by decide +kernel
theorem dM_drop_47 : decode cM_drop 47 = .ok (.iconst 1, 1) := by decide +kernel
theorem dM_drop_48 : decode cM_drop 48 = .ok (.ireturn, 1) := by decide +kernel
theorem dM_count_0 : decode cM_count 0 = .ok (.aload_n 0, 1) := by decide +kernel
theorem dM_count_1 : decode cM_count 1 = .ok (.iconst 0, 1) := by decide +kernel
theorem dM_count_2 : decode cM_count 2 = .ok (.putfield 32, 3) := by decide +kernel
theorem dM_count_5 : decode cM_count 5 = .ok (.aload_n 0, 1) := by decide +kernel
theorem dM_count_6 : decode cM_count 6 = .ok (.invokevirtual 86, 3) := by decide +kernel
theorem dM_count_9 : decode cM_count 9 = .ok (.iload_n 1, 1) := by decide +kernel
theorem dM_count_10 : decode cM_count 10 = .ok (.tableswitch 120 0 5 #[38, 46, 54, 62, 70, 107], 38) := by decide +kernel
theorem dM_count_48 : decode cM_count 48 = .ok (.aload_n 0, 1) := by decide +kernel
theorem dM_count_49 : decode cM_count 49 = .ok (.getfield 44, 3) := by decide +kernel
theorem dM_count_52 : decode cM_count 52 = .ok (.invokestatic 89, 3) := by decide +kernel
theorem dM_count_55 : decode cM_count 55 = .ok (.ireturn, 1) := by decide +kernel
theorem dM_count_56 : decode cM_count 56 = .ok (.aload_n 0, 1) := by decide +kernel
theorem dM_count_57 : decode cM_count 57 = .ok (.getfield 64, 3) := by decide +kernel
theorem dM_count_60 : decode cM_count 60 = .ok (.invokestatic 89, 3) := by decide +kernel
theorem dM_count_63 : decode cM_count 63 = .ok (.ireturn, 1) := by decide +kernel
theorem dM_count_64 : decode cM_count 64 = .ok (.aload_n 0, 1) := by decide +kernel
theorem dM_count_65 : decode cM_count 65 = .ok (.getfield 71, 3) := by decide +kernel
theorem dM_count_68 : decode cM_count 68 = .ok (.invokestatic 89, 3) := by decide +kernel
theorem dM_count_71 : decode cM_count 71 = .ok (.ireturn, 1) := by decide +kernel
theorem dM_count_72 : decode cM_count 72 = .ok (.aload_n 0, 1) := by decide +kernel
theorem dM_count_73 : decode cM_count 73 = .ok (.getfield 80, 3) := by decide +kernel
theorem dM_count_76 : decode cM_count 76 = .ok (.invokestatic 89, 3) := by decide +kernel
theorem dM_count_79 : decode cM_count 79 = .ok (.ireturn, 1) := by decide +kernel
theorem dM_count_80 : decode cM_count 80 = .ok (.iconst 0, 1) := by decide +kernel
theorem dM_count_81 : decode cM_count 81 = .ok (.istore_n 2, 1) := by decide +kernel
theorem dM_count_82 : decode cM_count 82 = .ok (.iconst 0, 1) := by decide +kernel
theorem dM_count_83 : decode cM_count 83 = .ok (.istore_n 3, 1) := by decide +kernel
theorem dM_count_84 : decode cM_count 84 = .ok (.iload_n 3, 1) := by decide +kernel
theorem dM_count_85 : decode cM_count 85 = .ok (.bipush 40, 2) := by decide +kernel
theorem dM_count_87 : decode cM_count 87 = .ok (.if_icmp .ge 28, 3) := by decide +kernel
theorem dM_count_90 : decode cM_count 90 = .ok (.aload_n 0, 1) := by decide +kernel
theorem dM_count_91 : decode cM_count 91 = .ok (.iload_n 3, 1) := by decide +kernel
theorem dM_count_92 : decode cM_count 92 = .ok (.invokevirtual 93, 3) := by decide +kernel
theorem dM_count_95 : decode cM_count 95 = .ok (.iload_n 2, 1) := by decide +kernel
theorem dM_count_96 : decode cM_count 96 = .ok (.if_icmp .le 11, 3) := by decide +kernel
theorem dM_count_99 : decode cM_count 99 = .ok (.aload_n 0, 1) := by decide +kernel
theorem dM_count_100 : decode cM_count 100 = .ok (.iload_n 3, 1) := by decide +kernel
theorem dM_count_101 : decode cM_count 101 = .ok (.invokevirtual 93, 3) := by decide +kernel
theorem dM_count_104 : decode cM_count 104 = .ok (.goto 4, 3) := by decide +kernel
theorem dM_count_107 : decode cM_count 107 = .ok (.iload_n 2, 1) := by decide +kernel
theorem dM_count_108 : decode cM_count 108 = .ok (.istore_n 2, 1) := by decide +kernel
theorem dM_count_109 : decode cM_count 109 = .ok (.iinc 3 1, 3) := by decide +kernel
theorem dM_count_112 : decode cM_count 112 = .ok (.goto (-28), 3) := by decide +kernel
theorem dM_count_115 : decode cM_count 115 = .ok (.iload_n 2, 1) := by decide +kernel
theorem dM_count_116 : decode cM_count 116 = .ok (.ireturn, 1) := by decide +kernel
theorem dM_count_117 : decode cM_count 117 = .ok (.aload_n 0, 1) := by decide +kernel
theorem dM_count_118 : decode cM_count 118 = .ok (.getfield 83, 3) := by decide +kernel
theorem dM_count_121 : decode cM_count 121 = .ok (.ifCond .eq 7, 3) := by decide +kernel
theorem dM_count_124 : decode cM_count 124 = .ok (.iconst 1, 1) := by decide +kernel
theorem dM_count_125 : decode cM_count 125 = .ok (.goto 4, 3) := by decide +kernel
theorem dM_count_128 : decode cM_count 128 = .ok (.iconst 0, 1) := by decide +kernel
theorem dM_count_129 : decode cM_count 129 = .ok (.ireturn, 1) := by decide +kernel
theorem dM_count_130 : decode cM_count 130 = .ok (.iconst (-1), 1) := by decide +kernel
theorem dM_count_131 : decode cM_count 131 = .ok (.ireturn, 1) := by decide +kernel
theorem dM_look_0 : decode cM_look 0 = .ok (.aload_n 0, 1) := by decide +kernel
theorem dM_look_1 : decode cM_look 1 = .ok (.getfield 52, 3) := by decide +kernel
theorem dM_look_4 : decode cM_look 4 = .ok (.ifCond .eq 4, 3) := by decide +kernel
theorem dM_look_7 : decode cM_look 7 = .ok (.return_, 1) := by decide +kernel
theorem dM_look_8 : decode cM_look 8 = .ok (.aload_n 0, 1) := by decide +kernel
theorem dM_look_9 : decode cM_look 9 = .ok (.iconst 1, 1) := by decide +kernel
theorem dM_look_10 : decode cM_look 10 = .ok (.putfield 52, 3) := by decide +kernel
theorem dM_look_13 : decode cM_look 13 = .ok (.aload_n 0, 1) := by decide +kernel
theorem dM_look_14 : decode cM_look 14 = .ok (.lconst 0, 1) := by decide +kernel
theorem dM_look_15 : decode cM_look 15 = .ok (.putfield 58, 3) := by decide +kernel
theorem dM_look_18 : decode cM_look 18 = .ok (.iconst 0, 1) := by decide +kernel
theorem dM_look_19 : decode cM_look 19 = .ok (.istore_n 1, 1) := by decide +kernel
theorem dM_look_20 : decode cM_look 20 = .ok (.iload_n 1, 1) := by decide +kernel
theorem dM_look_21 : decode cM_look 21 = .ok (.bipush 40, 2) := by decide +kernel
theorem dM_look_23 : decode cM_look 23 = .ok (.if_icmp .ge 130, 3) := by decide +kernel
theorem dM_look_26 : decode cM_look 26 = .ok (.aload_n 0, 1) := by decide +kernel
theorem dM_look_27 : decode cM_look 27 = .ok (.getfield 16, 3) := by decide +kernel
theorem dM_look_30 : decode cM_look 30 = .ok (.iload_n 1, 1) := by decide +kernel
theorem dM_look_31 : decode cM_look 31 = .ok (.lconst 0, 1) := by decide +kernel
theorem dM_look_32 : decode cM_look 32 = .ok (.lastore, 1) := by decide +kernel
theorem dM_look_33 : decode cM_look 33 = .ok (.iconst 0, 1) := by decide +kernel
theorem dM_look_34 : decode cM_look 34 = .ok (.istore_n 2, 1) := by decide +kernel
theorem dM_look_35 : decode cM_look 35 = .ok (.aload_n 0, 1) := by decide +kernel
theorem dM_look_36 : decode cM_look 36 = .ok (.getfield 44, 3) := by decide +kernel
theorem dM_look_39 : decode cM_look 39 = .ok (.iload_n 1, 1) := by decide +kernel
theorem dM_look_40 : decode cM_look 40 = .ok (.invokestatic 36, 3) := by decide +kernel
theorem dM_look_43 : decode cM_look 43 = .ok (.ifCond .eq 50, 3) := by decide +kernel
theorem dM_look_46 : decode cM_look 46 = .ok (.iload_n 2, 1) := by decide +kernel
theorem dM_look_47 : decode cM_look 47 = .ok (.aload_n 0, 1) := by decide +kernel
theorem dM_look_48 : decode cM_look 48 = .ok (.getfield 7, 3) := by decide +kernel
theorem dM_look_51 : decode cM_look 51 = .ok (.iload_n 1, 1) := by decide +kernel
theorem dM_look_52 : decode cM_look 52 = .ok (.iaload, 1) := by decide +kernel
theorem dM_look_53 : decode cM_look 53 = .ok (.if_icmp .ge 40, 3) := by decide +kernel
theorem dM_look_56 : decode cM_look 56 = .ok (.aload_n 0, 1) := by decide +kernel
theorem dM_look_57 : decode cM_look 57 = .ok (.getfield 16, 3) := by decide +kernel
theorem dM_look_60 : decode cM_look 60 = .ok (.iload_n 1, 1) := by decide +kernel
theorem dM_look_61 : decode cM_look 61 = .ok (.aload_n 0, 1) := by decide +kernel
theorem dM_look_62 : decode cM_look 62 = .ok (.getfield 16, 3) := by decide +kernel
theorem dM_look_65 : decode cM_look 65 = .ok (.iload_n 1, 1) := by decide +kernel
theorem dM_look_66 : decode cM_look 66 = .ok (.laload, 1) := by decide +kernel
theorem dM_look_67 : decode cM_look 67 = .ok (.aload_n 0, 1) := by decide +kernel
theorem dM_look_68 : decode cM_look 68 = .ok (.getfield 13, 3) := by decide +kernel
theorem dM_look_71 : decode cM_look 71 = .ok (.iconst 4, 1) := by decide +kernel
theorem dM_look_72 : decode cM_look 72 = .ok (.iload_n 1, 1) := by decide +kernel
theorem dM_look_73 : decode cM_look 73 = .ok (.imul, 1) := by decide +kernel
end
section
theorem dM_look_74 : decode cM_look 74 = .ok (.iload_n 2, 1) := by decide +kernel
theorem dM_look_75 : decode cM_look 75 = .ok (.iadd, 1) := by decide +kernel
theorem dM_look_76 : decode cM_look 76 = .ok (.iaload, 1) := by decide +kernel
theorem dM_look_77 : decode cM_look 77 = .ok (.invokestatic 48, 3) := by decide +kernel
theorem dM_look_80 : decode cM_look 80 = .ok (.aload_n 0, 1) := by decide +kernel
theorem dM_look_81 : decode cM_look 81 = .ok (.getfield 44, 3) := by decide +kernel
theorem dM_look_84 : decode cM_look 84 = .ok (.land, 1) := by decide +kernel
theorem dM_look_85 : decode cM_look 85 = .ok (.lor, 1) := by decide +kernel
theorem dM_look_86 : decode cM_look 86 = .ok (.lastore, 1) := by decide +kernel
theorem dM_look_87 : decode cM_look 87 = .ok (.iinc 2 1, 3) := by decide +kernel
theorem dM_look_90 : decode cM_look 90 = .ok (.goto (-55), 3) := by decide +kernel
theorem dM_look_93 : decode cM_look 93 = .ok (.aload_n 0, 1) := by decide +kernel
theorem dM_look_94 : decode cM_look 94 = .ok (.getfield 44, 3) := by decide +kernel
theorem dM_look_97 : decode cM_look 97 = .ok (.iload_n 1, 1) := by decide +kernel
theorem dM_look_98 : decode cM_look 98 = .ok (.invokestatic 36, 3) := by decide +kernel
theorem dM_look_101 : decode cM_look 101 = .ok (.ifCond .eq 25, 3) := by decide +kernel
theorem dM_look_104 : decode cM_look 104 = .ok (.aload_n 0, 1) := by decide +kernel
theorem dM_look_105 : decode cM_look 105 = .ok (.getfield 7, 3) := by decide +kernel
theorem dM_look_108 : decode cM_look 108 = .ok (.iload_n 1, 1) := by decide +kernel
theorem dM_look_109 : decode cM_look 109 = .ok (.iaload, 1) := by decide +kernel
theorem dM_look_110 : decode cM_look 110 = .ok (.ifCond .ne 16, 3) := by decide +kernel
theorem dM_look_113 : decode cM_look 113 = .ok (.aload_n 0, 1) := by decide +kernel
theorem dM_look_114 : decode cM_look 114 = .ok (.aload_n 0, 1) := by decide +kernel
theorem dM_look_115 : decode cM_look 115 = .ok (.getfield 58, 3) := by decide +kernel
theorem dM_look_118 : decode cM_look 118 = .ok (.iload_n 1, 1) := by decide +kernel
theorem dM_look_119 : decode cM_look 119 = .ok (.invokestatic 48, 3) := by decide +kernel
theorem dM_look_122 : decode cM_look 122 = .ok (.lor, 1) := by decide +kernel
theorem dM_look_123 : decode cM_look 123 = .ok (.putfield 58, 3) := by decide +kernel
theorem dM_look_126 : decode cM_look 126 = .ok (.aload_n 0, 1) := by decide +kernel
theorem dM_look_127 : decode cM_look 127 = .ok (.getfield 20, 3) := by decide +kernel
theorem dM_look_130 : decode cM_look 130 = .ok (.iload_n 1, 1) := by decide +kernel
theorem dM_look_131 : decode cM_look 131 = .ok (.lconst 0, 1) := by decide +kernel
theorem dM_look_132 : decode cM_look 132 = .ok (.lastore, 1) := by decide +kernel
theorem dM_look_133 : decode cM_look 133 = .ok (.aload_n 0, 1) := by decide +kernel
theorem dM_look_134 : decode cM_look 134 = .ok (.getfield 23, 3) := by decide +kernel
theorem dM_look_137 : decode cM_look 137 = .ok (.iload_n 1, 1) := by decide +kernel
theorem dM_look_138 : decode cM_look 138 = .ok (.lconst 0, 1) := by decide +kernel
theorem dM_look_139 : decode cM_look 139 = .ok (.lastore, 1) := by decide +kernel
theorem dM_look_140 : decode cM_look 140 = .ok (.aload_n 0, 1) := by decide +kernel
theorem dM_look_141 : decode cM_look 141 = .ok (.getfield 26, 3) := by decide +kernel
theorem dM_look_144 : decode cM_look 144 = .ok (.iload_n 1, 1) := by decide +kernel
theorem dM_look_145 : decode cM_look 145 = .ok (.lconst 0, 1) := by decide +kernel
theorem dM_look_146 : decode cM_look 146 = .ok (.lastore, 1) := by decide +kernel
theorem dM_look_147 : decode cM_look 147 = .ok (.iinc 1 1, 3) := by decide +kernel
theorem dM_look_150 : decode cM_look 150 = .ok (.goto (-130), 3) := by decide +kernel
theorem dM_look_153 : decode cM_look 153 = .ok (.aload_n 0, 1) := by decide +kernel
theorem dM_look_154 : decode cM_look 154 = .ok (.aload_n 0, 1) := by decide +kernel
theorem dM_look_155 : decode cM_look 155 = .ok (.iconst (-1), 1) := by decide +kernel
theorem dM_look_156 : decode cM_look 156 = .ok (.invokevirtual 61, 3) := by decide +kernel
theorem dM_look_159 : decode cM_look 159 = .ok (.putfield 64, 3) := by decide +kernel
theorem dM_look_162 : decode cM_look 162 = .ok (.aload_n 0, 1) := by decide +kernel
theorem dM_look_163 : decode cM_look 163 = .ok (.aload_n 0, 1) := by decide +kernel
theorem dM_look_164 : decode cM_look 164 = .ok (.aload_n 0, 1) := by decide +kernel
theorem dM_look_165 : decode cM_look 165 = .ok (.getfield 58, 3) := by decide +kernel
theorem dM_look_168 : decode cM_look 168 = .ok (.iconst (-1), 1) := by decide +kernel
theorem dM_look_169 : decode cM_look 169 = .ok (.invokevirtual 67, 3) := by decide +kernel
theorem dM_look_172 : decode cM_look 172 = .ok (.putfield 71, 3) := by decide +kernel
theorem dM_look_175 : decode cM_look 175 = .ok (.iconst 0, 1) := by decide +kernel
theorem dM_look_176 : decode cM_look 176 = .ok (.istore_n 1, 1) := by decide +kernel
theorem dM_look_177 : decode cM_look 177 = .ok (.iload_n 1, 1) := by decide +kernel
theorem dM_look_178 : decode cM_look 178 = .ok (.bipush 40, 2) := by decide +kernel
theorem dM_look_180 : decode cM_look 180 = .ok (.if_icmp .ge 147, 3) := by decide +kernel
theorem dM_look_183 : decode cM_look 183 = .ok (.aload_n 0, 1) := by decide +kernel
theorem dM_look_184 : decode cM_look 184 = .ok (.getfield 64, 3) := by decide +kernel
theorem dM_look_187 : decode cM_look 187 = .ok (.iload_n 1, 1) := by decide +kernel
theorem dM_look_188 : decode cM_look 188 = .ok (.invokestatic 36, 3) := by decide +kernel
theorem dM_look_191 : decode cM_look 191 = .ok (.ifCond .eq 20, 3) := by decide +kernel
theorem dM_look_194 : decode cM_look 194 = .ok (.aload_n 0, 1) := by decide +kernel
theorem dM_look_195 : decode cM_look 195 = .ok (.getfield 64, 3) := by decide +kernel
theorem dM_look_198 : decode cM_look 198 = .ok (.aload_n 0, 1) := by decide +kernel
theorem dM_look_199 : decode cM_look 199 = .ok (.iload_n 1, 1) := by decide +kernel
theorem dM_look_200 : decode cM_look 200 = .ok (.invokevirtual 61, 3) := by decide +kernel
theorem dM_look_203 : decode cM_look 203 = .ok (.ldc2_w 56, 3) := by decide +kernel
theorem dM_look_206 : decode cM_look 206 = .ok (.lxor, 1) := by decide +kernel
theorem dM_look_207 : decode cM_look 207 = .ok (.land, 1) := by decide +kernel
theorem dM_look_208 : decode cM_look 208 = .ok (.goto 4, 3) := by decide +kernel
theorem dM_look_211 : decode cM_look 211 = .ok (.lconst 0, 1) := by decide +kernel
theorem dM_look_212 : decode cM_look 212 = .ok (.lstore_n 2, 1) := by decide +kernel
theorem dM_look_213 : decode cM_look 213 = .ok (.aload_n 0, 1) := by decide +kernel
theorem dM_look_214 : decode cM_look 214 = .ok (.getfield 71, 3) := by decide +kernel
theorem dM_look_217 : decode cM_look 217 = .ok (.iload_n 1, 1) := by decide +kernel
theorem dM_look_218 : decode cM_look 218 = .ok (.invokestatic 36, 3) := by decide +kernel
theorem dM_look_221 : decode cM_look 221 = .ok (.ifCond .eq 24, 3) := by decide +kernel
theorem dM_look_224 : decode cM_look 224 = .ok (.aload_n 0, 1) := by decide +kernel
theorem dM_look_225 : decode cM_look 225 = .ok (.getfield 71, 3) := by decide +kernel
theorem dM_look_228 : decode cM_look 228 = .ok (.aload_n 0, 1) := by decide +kernel
theorem dM_look_229 : decode cM_look 229 = .ok (.aload_n 0, 1) := by decide +kernel
theorem dM_look_230 : decode cM_look 230 = .ok (.getfield 58, 3) := by decide +kernel
theorem dM_look_233 : decode cM_look 233 = .ok (.iload_n 1, 1) := by decide +kernel
theorem dM_look_234 : decode cM_look 234 = .ok (.invokevirtual 67, 3) := by decide +kernel
theorem dM_look_237 : decode cM_look 237 = .ok (.ldc2_w 56, 3) := by decide +kernel
theorem dM_look_240 : decode cM_look 240 = .ok (.lxor, 1) := by decide +kernel
theorem dM_look_241 : decode cM_look 241 = .ok (.land, 1) := by decide +kernel
theorem dM_look_242 : decode cM_look 242 = .ok (.goto 4, 3) := by decide +kernel
theorem dM_look_245 : decode cM_look 245 = .ok (.lconst 0, 1) := by decide +kernel
theorem dM_look_246 : decode cM_look 246 = .ok (.lstore 4, 2) := by decide +kernel
theorem dM_look_248 : decode cM_look 248 = .ok (.iconst 0, 1) := by decide +kernel
theorem dM_look_249 : decode cM_look 249 = .ok (.istore 6, 2) := by decide +kernel
theorem dM_look_251 : decode cM_look 251 = .ok (.iload 6, 2) := by decide +kernel
theorem dM_look_253 : decode cM_look 253 = .ok (.bipush 40, 2) := by decide +kernel
theorem dM_look_255 : decode cM_look 255 = .ok (.if_icmp .ge 66, 3) := by decide +kernel
theorem dM_look_258 : decode cM_look 258 = .ok (.lload_n 2, 1) := by decide +kernel
theorem dM_look_259 : decode cM_look 259 = .ok (.iload 6, 2) := by decide +kernel
theorem dM_look_261 : decode cM_look 261 = .ok (.invokestatic 36, 3) := by decide +kernel
theorem dM_look_264 : decode cM_look 264 = .ok (.ifCond .eq 22, 3) := by decide +kernel
theorem dM_look_267 : decode cM_look 267 = .ok (.aload_n 0, 1) := by decide +kernel
theorem dM_look_268 : decode cM_look 268 = .ok (.getfield 20, 3) := by decide +kernel
theorem dM_look_271 : decode cM_look 271 = .ok (.iload 6, 2) := by decide +kernel
theorem dM_look_273 : decode cM_look 273 = .ok (.aload_n 0, 1) := by decide +kernel
theorem dM_look_274 : decode cM_look 274 = .ok (.getfield 20, 3) := by decide +kernel
theorem dM_look_277 : decode cM_look 277 = .ok (.iload 6, 2) := by decide +kernel
theorem dM_look_279 : decode cM_look 279 = .ok (.laload, 1) := by decide +kernel
theorem dM_look_280 : decode cM_look 280 = .ok (.iload_n 1, 1) := by decide +kernel
theorem dM_look_281 : decode cM_look 281 = .ok (.invokestatic 48, 3) := by decide +kernel
theorem dM_look_284 : decode cM_look 284 = .ok (.lor, 1) := by decide +kernel
theorem dM_look_285 : decode cM_look 285 = .ok (.lastore, 1) := by decide +kernel
theorem dM_look_286 : decode cM_look 286 = .ok (.lload 4, 2) := by decide +kernel
theorem dM_look_288 : decode cM_look 288 = .ok (.iload 6, 2) := by decide +kernel
theorem dM_look_290 : decode cM_look 290 = .ok (.invokestatic 36, 3) := by decide +kernel
theorem dM_look_293 : decode cM_look 293 = .ok (.ifCond .eq 22, 3) := by decide +kernel
theorem dM_look_296 : decode cM_look 296 = .ok (.aload_n 0, 1) := by decide +kernel
theorem dM_look_297 : decode cM_look 297 = .ok (.getfield 23, 3) := by decide +kernel
theorem dM_look_300 : decode cM_look 300 = .ok (.iload 6, 2) := by decide +kernel
theorem dM_look_302 : decode cM_look 302 = .ok (.aload_n 0, 1) := by decide +kernel
theorem dM_look_303 : decode cM_look 303 = .ok (.getfield 23, 3) := by decide +kernel
theorem dM_look_306 : decode cM_look 306 = .ok (.iload 6, 2) := by decide +kernel
theorem dM_look_308 : decode cM_look 308 = .ok (.laload, 1) := by decide +kernel
theorem dM_look_309 : decode cM_look 309 = .ok (.iload_n 1, 1) := by decide +kernel
theorem dM_look_310 : decode cM_look 310 = .ok (.invokestatic 48, 3) := by decide +kernel
theorem dM_look_313 : decode cM_look 313 = .ok (.lor, 1) := by decide +kernel
theorem dM_look_314 : decode cM_look 314 = .ok (.lastore, 1) := by decide +kernel
theorem dM_look_315 : decode cM_look 315 = .ok (.iinc 6 1, 3) := by decide +kernel
theorem dM_look_318 : decode cM_look 318 = .ok (.goto (-67), 3) := by decide +kernel
theorem dM_look_321 : decode cM_look 321 = .ok (.iinc 1 1, 3) := by decide +kernel
theorem dM_look_324 : decode cM_look 324 = .ok (.goto (-147), 3) := by decide +kernel
theorem dM_look_327 : decode cM_look 327 = .ok (.aload_n 0, 1) := by decide +kernel
theorem dM_look_328 : decode cM_look 328 = .ok (.invokevirtual 74, 3) := by decide +kernel
theorem dM_look_331 : decode cM_look 331 = .ok (.aload_n 0, 1) := by decide +kernel
theorem dM_look_332 : decode cM_look 332 = .ok (.invokevirtual 77, 3) := by decide +kernel
theorem dM_look_335 : decode cM_look 335 = .ok (.return_, 1) := by decide +kernel
theorem dM_comeTo_0 : decode cM_comeTo 0 = .ok (.iload_n 1, 1) := by decide +kernel
theorem dM_comeTo_1 : decode cM_comeTo 1 = .ok (.ifCond .ne 7, 3) := by decide +kernel
theorem dM_comeTo_4 : decode cM_comeTo 4 = .ok (.lconst 0, 1) := by decide +kernel
theorem dM_comeTo_5 : decode cM_comeTo 5 = .ok (.goto 9, 3) := by decide +kernel
theorem dM_comeTo_8 : decode cM_comeTo 8 = .ok (.aload_n 0, 1) := by decide +kernel
theorem dM_comeTo_9 : decode cM_comeTo 9 = .ok (.getfield 44, 3) := by decide +kernel
theorem dM_comeTo_12 : decode cM_comeTo 12 = .ok (.lconst 1, 1) := by decide +kernel
theorem dM_comeTo_13 : decode cM_comeTo 13 = .ok (.land, 1) := by decide +kernel
theorem dM_comeTo_14 : decode cM_comeTo 14 = .ok (.lstore_n 2, 1) := by decide +kernel
theorem dM_comeTo_15 : decode cM_comeTo 15 = .ok (.iconst 1, 1) := by decide +kernel
theorem dM_comeTo_16 : decode cM_comeTo 16 = .ok (.istore 4, 2) := by decide +kernel
theorem dM_comeTo_18 : decode cM_comeTo 18 = .ok (.iload 4, 2) := by decide +kernel
theorem dM_comeTo_20 : decode cM_comeTo 20 = .ok (.ifCond .eq 81, 3) := by decide +kernel
theorem dM_comeTo_23 : decode cM_comeTo 23 = .ok (.lload_n 2, 1) := by decide +kernel
theorem dM_comeTo_24 : decode cM_comeTo 24 = .ok (.lstore 5, 2) := by decide +kernel
theorem dM_comeTo_26 : decode cM_comeTo 26 = .ok (.iconst 0, 1) := by decide +kernel
theorem dM_comeTo_27 : decode cM_comeTo 27 = .ok (.istore 7, 2) := by decide +kernel
theorem dM_comeTo_29 : decode cM_comeTo 29 = .ok (.iload 7, 2) := by decide +kernel
theorem dM_comeTo_31 : decode cM_comeTo 31 = .ok (.bipush 40, 2) := by decide +kernel
theorem dM_comeTo_33 : decode cM_comeTo 33 = .ok (.if_icmp .ge 30, 3) := by decide +kernel
theorem dM_comeTo_36 : decode cM_comeTo 36 = .ok (.lload_n 2, 1) := by decide +kernel
theorem dM_comeTo_37 : decode cM_comeTo 37 = .ok (.iload 7, 2) := by decide +kernel
theorem dM_comeTo_39 : decode cM_comeTo 39 = .ok (.invokestatic 36, 3) := by decide +kernel
theorem dM_comeTo_42 : decode cM_comeTo 42 = .ok (.ifCond .eq 15, 3) := by decide +kernel
theorem dM_comeTo_45 : decode cM_comeTo 45 = .ok (.lload 5, 2) := by decide +kernel
theorem dM_comeTo_47 : decode cM_comeTo 47 = .ok (.aload_n 0, 1) := by decide +kernel
theorem dM_comeTo_48 : decode cM_comeTo 48 = .ok (.getfield 16, 3) := by decide +kernel
theorem dM_comeTo_51 : decode cM_comeTo 51 = .ok (.iload 7, 2) := by decide +kernel
theorem dM_comeTo_53 : decode cM_comeTo 53 = .ok (.laload, 1) := by decide +kernel
theorem dM_comeTo_54 : decode cM_comeTo 54 = .ok (.lor, 1) := by decide +kernel
theorem dM_comeTo_55 : decode cM_comeTo 55 = .ok (.lstore 5, 2) := by decide +kernel
theorem dM_comeTo_57 : decode cM_comeTo 57 = .ok (.iinc 7 1, 3) := by decide +kernel
theorem dM_comeTo_60 : decode cM_comeTo 60 = .ok (.goto (-31), 3) := by decide +kernel
theorem dM_comeTo_63 : decode cM_comeTo 63 = .ok (.iload_n 1, 1) := by decide +kernel
theorem dM_comeTo_64 : decode cM_comeTo 64 = .ok (.iconst (-1), 1) := by decide +kernel
theorem dM_comeTo_65 : decode cM_comeTo 65 = .ok (.if_icmp .eq 16, 3) := by decide +kernel
theorem dM_comeTo_68 : decode cM_comeTo 68 = .ok (.lload 5, 2) := by decide +kernel
theorem dM_comeTo_70 : decode cM_comeTo 70 = .ok (.iload_n 1, 1) := by decide +kernel
theorem dM_comeTo_71 : decode cM_comeTo 71 = .ok (.invokestatic 48, 3) := by decide +kernel
theorem dM_comeTo_74 : decode cM_comeTo 74 = .ok (.ldc2_w 56, 3) := by decide +kernel
theorem dM_comeTo_77 : decode cM_comeTo 77 = .ok (.lxor, 1) := by decide +kernel
theorem dM_comeTo_78 : decode cM_comeTo 78 = .ok (.land, 1) := by decide +kernel
theorem dM_comeTo_79 : decode cM_comeTo 79 = .ok (.lstore 5, 2) := by decide +kernel
theorem dM_comeTo_81 : decode cM_comeTo 81 = .ok (.lload 5, 2) := by decide +kernel
theorem dM_comeTo_83 : decode cM_comeTo 83 = .ok (.lload_n 2, 1) := by decide +kernel
theorem dM_comeTo_84 : decode cM_comeTo 84 = .ok (.lcmp, 1) := by decide +kernel
theorem dM_comeTo_85 : decode cM_comeTo 85 = .ok (.ifCond .eq 7, 3) := by decide +kernel
theorem dM_comeTo_88 : decode cM_comeTo 88 = .ok (.iconst 1, 1) := by decide +kernel
theorem dM_comeTo_89 : decode cM_comeTo 89 = .ok (.goto 4, 3) := by decide +kernel
theorem dM_comeTo_92 : decode cM_comeTo 92 = .ok (.iconst 0, 1) := by decide +kernel
theorem dM_comeTo_93 : decode cM_comeTo 93 = .ok (.istore 4, 2) := by decide +kernel
theorem dM_comeTo_95 : decode cM_comeTo 95 = .ok (.lload 5, 2) := by decide +kernel
theorem dM_comeTo_97 : decode cM_comeTo 97 = .ok (.lstore_n 2, 1) := by decide +kernel
theorem dM_comeTo_98 : decode cM_comeTo 98 = .ok (.goto (-80), 3) := by decide +kernel
theorem dM_comeTo_101 : decode cM_comeTo 101 = .ok (.lload_n 2, 1) := by decide +kernel
theorem dM_comeTo_102 : decode cM_comeTo 102 = .ok (.lreturn, 1) := by decide +kernel
theorem dM_leadTo_0 : decode cM_leadTo 0 = .ok (.iload_n 3, 1) := by decide +kernel
theorem dM_leadTo_1 : decode cM_leadTo 1 = .ok (.iconst (-1), 1) := by decide +kernel
theorem dM_leadTo_2 : decode cM_leadTo 2 = .ok (.if_icmp .ne 7, 3) := by decide +kernel
theorem dM_leadTo_5 : decode cM_leadTo 5 = .ok (.lconst 0, 1) := by decide +kernel
theorem dM_leadTo_6 : decode cM_leadTo 6 = .ok (.goto 7, 3) := by decide +kernel
theorem dM_leadTo_9 : decode cM_leadTo 9 = .ok (.iload_n 3, 1) := by decide +kernel
theorem dM_leadTo_10 : decode cM_leadTo 10 = .ok (.invokestatic 48, 3) := by decide +kernel
theorem dM_leadTo_13 : decode cM_leadTo 13 = .ok (.lstore 4, 2) := by decide +kernel
theorem dM_leadTo_15 : decode cM_leadTo 15 = .ok (.lload_n 1, 1) := by decide +kernel
theorem dM_leadTo_16 : decode cM_leadTo 16 = .ok (.lload 4, 2) := by decide +kernel
theorem dM_leadTo_18 : decode cM_leadTo 18 = .ok (.ldc2_w 56, 3) := by decide +kernel
theorem dM_leadTo_21 : decode cM_leadTo 21 = .ok (.lxor, 1) := by decide +kernel
theorem dM_leadTo_22 : decode cM_leadTo 22 = .ok (.land, 1) := by decide +kernel
theorem dM_leadTo_23 : decode cM_leadTo 23 = .ok (.lstore 6, 2) := by decide +kernel
theorem dM_leadTo_25 : decode cM_leadTo 25 = .ok (.iconst 1, 1) := by decide +kernel
theorem dM_leadTo_26 : decode cM_leadTo 26 = .ok (.istore 8, 2) := by decide +kernel
theorem dM_leadTo_28 : decode cM_leadTo 28 = .ok (.iload 8, 2) := by decide +kernel
theorem dM_leadTo_30 : decode cM_leadTo 30 = .ok (.ifCond .eq 89, 3) := by decide +kernel
theorem dM_leadTo_33 : decode cM_leadTo 33 = .ok (.lload 6, 2) := by decide +kernel
theorem dM_leadTo_35 : decode cM_leadTo 35 = .ok (.lstore 9, 2) := by decide +kernel
theorem dM_leadTo_37 : decode cM_leadTo 37 = .ok (.iconst 0, 1) := by decide +kernel
theorem dM_leadTo_38 : decode cM_leadTo 38 = .ok (.istore 11, 2) := by decide +kernel
theorem dM_leadTo_40 : decode cM_leadTo 40 = .ok (.iload 11, 2) := by decide +kernel
theorem dM_leadTo_42 : decode cM_leadTo 42 = .ok (.bipush 40, 2) := by decide +kernel
theorem dM_leadTo_44 : decode cM_leadTo 44 = .ok (.if_icmp .ge 53, 3) := by decide +kernel
theorem dM_leadTo_47 : decode cM_leadTo 47 = .ok (.aload_n 0, 1) := by decide +kernel
theorem dM_leadTo_48 : decode cM_leadTo 48 = .ok (.getfield 44, 3) := by decide +kernel
theorem dM_leadTo_51 : decode cM_leadTo 51 = .ok (.lload 4, 2) := by decide +kernel
theorem dM_leadTo_53 : decode cM_leadTo 53 = .ok (.ldc2_w 56, 3) := by decide +kernel
theorem dM_leadTo_56 : decode cM_leadTo 56 = .ok (.lxor, 1) := by decide +kernel
theorem dM_leadTo_57 : decode cM_leadTo 57 = .ok (.land, 1) := by decide +kernel
theorem dM_leadTo_58 : decode cM_leadTo 58 = .ok (.iload 11, 2) := by decide +kernel
theorem dM_leadTo_60 : decode cM_leadTo 60 = .ok (.invokestatic 36, 3) := by decide +kernel
theorem dM_leadTo_63 : decode cM_leadTo 63 = .ok (.ifCond .eq 28, 3) := by decide +kernel
theorem dM_leadTo_66 : decode cM_leadTo 66 = .ok (.aload_n 0, 1) := by decide +kernel
theorem dM_leadTo_67 : decode cM_leadTo 67 = .ok (.getfield 16, 3) := by decide +kernel
theorem dM_leadTo_70 : decode cM_leadTo 70 = .ok (.iload 11, 2) := by decide +kernel
theorem dM_leadTo_72 : decode cM_leadTo 72 = .ok (.laload, 1) := by decide +kernel
theorem dM_leadTo_73 : decode cM_leadTo 73 = .ok (.lload 6, 2) := by decide +kernel
theorem dM_leadTo_75 : decode cM_leadTo 75 = .ok (.land, 1) := by decide +kernel
theorem dM_leadTo_76 : decode cM_leadTo 76 = .ok (.lconst 0, 1) := by decide +kernel
theorem dM_leadTo_77 : decode cM_leadTo 77 = .ok (.lcmp, 1) := by decide +kernel
theorem dM_leadTo_78 : decode cM_leadTo 78 = .ok (.ifCond .eq 13, 3) := by decide +kernel
theorem dM_leadTo_81 : decode cM_leadTo 81 = .ok (.lload 9, 2) := by decide +kernel
theorem dM_leadTo_83 : decode cM_leadTo 83 = .ok (.iload 11, 2) := by decide +kernel
theorem dM_leadTo_85 : decode cM_leadTo 85 = .ok (.invokestatic 48, 3) := by decide +kernel
theorem dM_leadTo_88 : decode cM_leadTo 88 = .ok (.lor, 1) := by decide +kernel
theorem dM_leadTo_89 : decode cM_leadTo 89 = .ok (.lstore 9, 2) := by decide +kernel
theorem dM_leadTo_91 : decode cM_leadTo 91 = .ok (.iinc 11 1, 3) := by decide +kernel
theorem dM_leadTo_94 : decode cM_leadTo 94 = .ok (.goto (-54), 3) := by decide +kernel
theorem dM_leadTo_97 : decode cM_leadTo 97 = .ok (.lload 9, 2) := by decide +kernel
theorem dM_leadTo_99 : decode cM_leadTo 99 = .ok (.lload 6, 2) := by decide +kernel
theorem dM_leadTo_101 : decode cM_leadTo 101 = .ok (.lcmp, 1) := by decide +kernel
theorem dM_leadTo_102 : decode cM_leadTo 102 = .ok (.ifCond .eq 7, 3) := by decide +kernel
theorem dM_leadTo_105 : decode cM_leadTo 105 = .ok (.iconst 1, 1) := by decide +kernel
theorem dM_leadTo_106 : decode cM_leadTo 106 = .ok (.goto 4, 3) := by decide +kernel
theorem dM_leadTo_109 : decode cM_leadTo 109 = .ok (.iconst 0, 1) := by decide +kernel
theorem dM_leadTo_110 : decode cM_leadTo 110 = .ok (.istore 8, 2) := by decide +kernel
theorem dM_leadTo_112 : decode cM_leadTo 112 = .ok (.lload 9, 2) := by decide +kernel
theorem dM_leadTo_114 : decode cM_leadTo 114 = .ok (.lstore 6, 2) := by decide +kernel
theorem dM_leadTo_116 : decode cM_leadTo 116 = .ok (.goto (-88), 3) := by decide +kernel
theorem dM_leadTo_119 : decode cM_leadTo 119 = .ok (.lload 6, 2) := by decide +kernel
theorem dM_leadTo_121 : decode cM_leadTo 121 = .ok (.lreturn, 1) := by decide +kernel
theorem dM_lookAtRounds_0 : decode cM_lookAtRounds 0 = .ok (.aload_n 0, 1) := by decide +kernel
theorem dM_lookAtRounds_1 : decode cM_lookAtRounds 1 = .ok (.lconst 0, 1) := by decide +kernel
theorem dM_lookAtRounds_2 : decode cM_lookAtRounds 2 = .ok (.putfield 80, 3) := by decide +kernel
theorem dM_lookAtRounds_5 : decode cM_lookAtRounds 5 = .ok (.iconst 0, 1) := by decide +kernel
theorem dM_lookAtRounds_6 : decode cM_lookAtRounds 6 = .ok (.istore_n 1, 1) := by decide +kernel
theorem dM_lookAtRounds_7 : decode cM_lookAtRounds 7 = .ok (.iload_n 1, 1) := by decide +kernel
theorem dM_lookAtRounds_8 : decode cM_lookAtRounds 8 = .ok (.bipush 40, 2) := by decide +kernel
theorem dM_lookAtRounds_10 : decode cM_lookAtRounds 10 = .ok (.if_icmp .ge 119, 3) := by decide +kernel
theorem dM_lookAtRounds_13 : decode cM_lookAtRounds 13 = .ok (.lconst 0, 1) := by decide +kernel
theorem dM_lookAtRounds_14 : decode cM_lookAtRounds 14 = .ok (.lstore_n 2, 1) := by decide +kernel
theorem dM_lookAtRounds_15 : decode cM_lookAtRounds 15 = .ok (.iconst 0, 1) := by decide +kernel
theorem dM_lookAtRounds_16 : decode cM_lookAtRounds 16 = .ok (.istore 4, 2) := by decide +kernel
theorem dM_lookAtRounds_18 : decode cM_lookAtRounds 18 = .ok (.iload 4, 2) := by decide +kernel
theorem dM_lookAtRounds_20 : decode cM_lookAtRounds 20 = .ok (.bipush 40, 2) := by decide +kernel
theorem dM_lookAtRounds_22 : decode cM_lookAtRounds 22 = .ok (.if_icmp .ge 57, 3) := by decide +kernel
theorem dM_lookAtRounds_25 : decode cM_lookAtRounds 25 = .ok (.aload_n 0, 1) := by decide +kernel
theorem dM_lookAtRounds_26 : decode cM_lookAtRounds 26 = .ok (.getfield 64, 3) := by decide +kernel
theorem dM_lookAtRounds_29 : decode cM_lookAtRounds 29 = .ok (.iload 4, 2) := by decide +kernel
theorem dM_lookAtRounds_31 : decode cM_lookAtRounds 31 = .ok (.invokestatic 36, 3) := by decide +kernel
theorem dM_lookAtRounds_34 : decode cM_lookAtRounds 34 = .ok (.ifCond .eq 39, 3) := by decide +kernel
theorem dM_lookAtRounds_37 : decode cM_lookAtRounds 37 = .ok (.aload_n 0, 1) := by decide +kernel
theorem dM_lookAtRounds_38 : decode cM_lookAtRounds 38 = .ok (.getfield 16, 3) := by decide +kernel
theorem dM_lookAtRounds_41 : decode cM_lookAtRounds 41 = .ok (.iload 4, 2) := by decide +kernel
theorem dM_lookAtRounds_43 : decode cM_lookAtRounds 43 = .ok (.laload, 1) := by decide +kernel
theorem dM_lookAtRounds_44 : decode cM_lookAtRounds 44 = .ok (.iload_n 1, 1) := by decide +kernel
theorem dM_lookAtRounds_45 : decode cM_lookAtRounds 45 = .ok (.invokestatic 36, 3) := by decide +kernel
theorem dM_lookAtRounds_48 : decode cM_lookAtRounds 48 = .ok (.ifCond .eq 25, 3) := by decide +kernel
theorem dM_lookAtRounds_51 : decode cM_lookAtRounds 51 = .ok (.aload_n 0, 1) := by decide +kernel
theorem dM_lookAtRounds_52 : decode cM_lookAtRounds 52 = .ok (.getfield 20, 3) := by decide +kernel
theorem dM_lookAtRounds_55 : decode cM_lookAtRounds 55 = .ok (.iload 4, 2) := by decide +kernel
theorem dM_lookAtRounds_57 : decode cM_lookAtRounds 57 = .ok (.laload, 1) := by decide +kernel
theorem dM_lookAtRounds_58 : decode cM_lookAtRounds 58 = .ok (.iload_n 1, 1) := by decide +kernel
theorem dM_lookAtRounds_59 : decode cM_lookAtRounds 59 = .ok (.invokestatic 36, 3) := by decide +kernel
theorem dM_lookAtRounds_62 : decode cM_lookAtRounds 62 = .ok (.ifCond .eq 11, 3) := by decide +kernel
theorem dM_lookAtRounds_65 : decode cM_lookAtRounds 65 = .ok (.lload_n 2, 1) := by decide +kernel
theorem dM_lookAtRounds_66 : decode cM_lookAtRounds 66 = .ok (.iload 4, 2) := by decide +kernel
theorem dM_lookAtRounds_68 : decode cM_lookAtRounds 68 = .ok (.invokestatic 48, 3) := by decide +kernel
theorem dM_lookAtRounds_71 : decode cM_lookAtRounds 71 = .ok (.lor, 1) := by decide +kernel
theorem dM_lookAtRounds_72 : decode cM_lookAtRounds 72 = .ok (.lstore_n 2, 1) := by decide +kernel
theorem dM_lookAtRounds_73 : decode cM_lookAtRounds 73 = .ok (.iinc 4 1, 3) := by decide +kernel
theorem dM_lookAtRounds_76 : decode cM_lookAtRounds 76 = .ok (.goto (-58), 3) := by decide +kernel
theorem dM_lookAtRounds_79 : decode cM_lookAtRounds 79 = .ok (.lload_n 2, 1) := by decide +kernel
theorem dM_lookAtRounds_80 : decode cM_lookAtRounds 80 = .ok (.lconst 0, 1) := by decide +kernel
theorem dM_lookAtRounds_81 : decode cM_lookAtRounds 81 = .ok (.lcmp, 1) := by decide +kernel
theorem dM_lookAtRounds_82 : decode cM_lookAtRounds 82 = .ok (.ifCond .ne 6, 3) := by decide +kernel
theorem dM_lookAtRounds_85 : decode cM_lookAtRounds 85 = .ok (.goto 38, 3) := by decide +kernel
theorem dM_lookAtRounds_88 : decode cM_lookAtRounds 88 = .ok (.aload_n 0, 1) := by decide +kernel
theorem dM_lookAtRounds_89 : decode cM_lookAtRounds 89 = .ok (.aload_n 0, 1) := by decide +kernel
theorem dM_lookAtRounds_90 : decode cM_lookAtRounds 90 = .ok (.getfield 80, 3) := by decide +kernel
theorem dM_lookAtRounds_93 : decode cM_lookAtRounds 93 = .ok (.iload_n 1, 1) := by decide +kernel
theorem dM_lookAtRounds_94 : decode cM_lookAtRounds 94 = .ok (.invokestatic 48, 3) := by decide +kernel
theorem dM_lookAtRounds_97 : decode cM_lookAtRounds 97 = .ok (.lor, 1) := by decide +kernel
theorem dM_lookAtRounds_98 : decode cM_lookAtRounds 98 = .ok (.putfield 80, 3) := by decide +kernel
theorem dM_lookAtRounds_101 : decode cM_lookAtRounds 101 = .ok (.aload_n 0, 1) := by decide +kernel
theorem dM_lookAtRounds_102 : decode cM_lookAtRounds 102 = .ok (.getfield 26, 3) := by decide +kernel
theorem dM_lookAtRounds_105 : decode cM_lookAtRounds 105 = .ok (.iload_n 1, 1) := by decide +kernel
theorem dM_lookAtRounds_106 : decode cM_lookAtRounds 106 = .ok (.iload_n 1, 1) := by decide +kernel
theorem dM_lookAtRounds_107 : decode cM_lookAtRounds 107 = .ok (.invokestatic 48, 3) := by decide +kernel
theorem dM_lookAtRounds_110 : decode cM_lookAtRounds 110 = .ok (.aload_n 0, 1) := by decide +kernel
theorem dM_lookAtRounds_111 : decode cM_lookAtRounds 111 = .ok (.lload_n 2, 1) := by decide +kernel
theorem dM_lookAtRounds_112 : decode cM_lookAtRounds 112 = .ok (.iload_n 1, 1) := by decide +kernel
theorem dM_lookAtRounds_113 : decode cM_lookAtRounds 113 = .ok (.invokevirtual 67, 3) := by decide +kernel
theorem dM_lookAtRounds_116 : decode cM_lookAtRounds 116 = .ok (.aload_n 0, 1) := by decide +kernel
theorem dM_lookAtRounds_117 : decode cM_lookAtRounds 117 = .ok (.getfield 64, 3) := by decide +kernel
theorem dM_lookAtRounds_120 : decode cM_lookAtRounds 120 = .ok (.land, 1) := by decide +kernel
theorem dM_lookAtRounds_121 : decode cM_lookAtRounds 121 = .ok (.lor, 1) := by decide +kernel
theorem dM_lookAtRounds_122 : decode cM_lookAtRounds 122 = .ok (.lastore, 1) := by decide +kernel
theorem dM_lookAtRounds_123 : decode cM_lookAtRounds 123 = .ok (.iinc 1 1, 3) := by decide +kernel
theorem dM_lookAtRounds_126 : decode cM_lookAtRounds 126 = .ok (.goto (-119), 3) := by decide +kernel
theorem dM_lookAtRounds_129 : decode cM_lookAtRounds 129 = .ok (.aload_n 0, 1) := by decide +kernel
theorem dM_lookAtRounds_130 : decode cM_lookAtRounds 130 = .ok (.getfield 64, 3) := by decide +kernel
theorem dM_lookAtRounds_133 : decode cM_lookAtRounds 133 = .ok (.lstore_n 1, 1) := by decide +kernel
theorem dM_lookAtRounds_134 : decode cM_lookAtRounds 134 = .ok (.iconst 1, 1) := by decide +kernel
theorem dM_lookAtRounds_135 : decode cM_lookAtRounds 135 = .ok (.istore_n 3, 1) := by decide +kernel
theorem dM_lookAtRounds_136 : decode cM_lookAtRounds 136 = .ok (.iload_n 3, 1) := by decide +kernel
theorem dM_lookAtRounds_137 : decode cM_lookAtRounds 137 = .ok (.ifCond .eq 76, 3) := by decide +kernel
theorem dM_lookAtRounds_140 : decode cM_lookAtRounds 140 = .ok (.iconst 0, 1) := by decide +kernel
theorem dM_lookAtRounds_141 : decode cM_lookAtRounds 141 = .ok (.istore_n 3, 1) := by decide +kernel
theorem dM_lookAtRounds_142 : decode cM_lookAtRounds 142 = .ok (.iconst 0, 1) := by decide +kernel
theorem dM_lookAtRounds_143 : decode cM_lookAtRounds 143 = .ok (.istore 4, 2) := by decide +kernel
theorem dM_lookAtRounds_145 : decode cM_lookAtRounds 145 = .ok (.iload 4, 2) := by decide +kernel
theorem dM_lookAtRounds_147 : decode cM_lookAtRounds 147 = .ok (.bipush 40, 2) := by decide +kernel
theorem dM_lookAtRounds_149 : decode cM_lookAtRounds 149 = .ok (.if_icmp .ge 61, 3) := by decide +kernel
theorem dM_lookAtRounds_152 : decode cM_lookAtRounds 152 = .ok (.lload_n 1, 1) := by decide +kernel
theorem dM_lookAtRounds_153 : decode cM_lookAtRounds 153 = .ok (.iload 4, 2) := by decide +kernel
theorem dM_lookAtRounds_155 : decode cM_lookAtRounds 155 = .ok (.invokestatic 36, 3) := by decide +kernel
theorem dM_lookAtRounds_158 : decode cM_lookAtRounds 158 = .ok (.ifCond .eq 46, 3) := by decide +kernel
theorem dM_lookAtRounds_161 : decode cM_lookAtRounds 161 = .ok (.aload_n 0, 1) := by decide +kernel
theorem dM_lookAtRounds_162 : decode cM_lookAtRounds 162 = .ok (.getfield 16, 3) := by decide +kernel
theorem dM_lookAtRounds_165 : decode cM_lookAtRounds 165 = .ok (.iload 4, 2) := by decide +kernel
theorem dM_lookAtRounds_167 : decode cM_lookAtRounds 167 = .ok (.laload, 1) := by decide +kernel
theorem dM_lookAtRounds_168 : decode cM_lookAtRounds 168 = .ok (.lload_n 1, 1) := by decide +kernel
theorem dM_lookAtRounds_169 : decode cM_lookAtRounds 169 = .ok (.land, 1) := by decide +kernel
theorem dM_lookAtRounds_170 : decode cM_lookAtRounds 170 = .ok (.aload_n 0, 1) := by decide +kernel
theorem dM_lookAtRounds_171 : decode cM_lookAtRounds 171 = .ok (.getfield 20, 3) := by decide +kernel
theorem dM_lookAtRounds_174 : decode cM_lookAtRounds 174 = .ok (.iload 4, 2) := by decide +kernel
theorem dM_lookAtRounds_176 : decode cM_lookAtRounds 176 = .ok (.laload, 1) := by decide +kernel
theorem dM_lookAtRounds_177 : decode cM_lookAtRounds 177 = .ok (.ldc2_w 56, 3) := by decide +kernel
theorem dM_lookAtRounds_180 : decode cM_lookAtRounds 180 = .ok (.lxor, 1) := by decide +kernel
theorem dM_lookAtRounds_181 : decode cM_lookAtRounds 181 = .ok (.land, 1) := by decide +kernel
theorem dM_lookAtRounds_182 : decode cM_lookAtRounds 182 = .ok (.lconst 0, 1) := by decide +kernel
theorem dM_lookAtRounds_183 : decode cM_lookAtRounds 183 = .ok (.lcmp, 1) := by decide +kernel
theorem dM_lookAtRounds_184 : decode cM_lookAtRounds 184 = .ok (.ifCond .eq 6, 3) := by decide +kernel
theorem dM_lookAtRounds_187 : decode cM_lookAtRounds 187 = .ok (.goto 17, 3) := by decide +kernel
theorem dM_lookAtRounds_190 : decode cM_lookAtRounds 190 = .ok (.lload_n 1, 1) := by decide +kernel
theorem dM_lookAtRounds_191 : decode cM_lookAtRounds 191 = .ok (.iload 4, 2) := by decide +kernel
theorem dM_lookAtRounds_193 : decode cM_lookAtRounds 193 = .ok (.invokestatic 48, 3) := by decide +kernel
theorem dM_lookAtRounds_196 : decode cM_lookAtRounds 196 = .ok (.ldc2_w 56, 3) := by decide +kernel
theorem dM_lookAtRounds_199 : decode cM_lookAtRounds 199 = .ok (.lxor, 1) := by decide +kernel
theorem dM_lookAtRounds_200 : decode cM_lookAtRounds 200 = .ok (.land, 1) := by decide +kernel
theorem dM_lookAtRounds_201 : decode cM_lookAtRounds 201 = .ok (.lstore_n 1, 1) := by decide +kernel
theorem dM_lookAtRounds_202 : decode cM_lookAtRounds 202 = .ok (.iconst 1, 1) := by decide +kernel
theorem dM_lookAtRounds_203 : decode cM_lookAtRounds 203 = .ok (.istore_n 3, 1) := by decide +kernel
theorem dM_lookAtRounds_204 : decode cM_lookAtRounds 204 = .ok (.iinc 4 1, 3) := by decide +kernel
theorem dM_lookAtRounds_207 : decode cM_lookAtRounds 207 = .ok (.goto (-62), 3) := by decide +kernel
theorem dM_lookAtRounds_210 : decode cM_lookAtRounds 210 = .ok (.goto (-74), 3) := by decide +kernel
theorem dM_lookAtRounds_213 : decode cM_lookAtRounds 213 = .ok (.aload_n 0, 1) := by decide +kernel
theorem dM_lookAtRounds_214 : decode cM_lookAtRounds 214 = .ok (.lload_n 1, 1) := by decide +kernel
theorem dM_lookAtRounds_215 : decode cM_lookAtRounds 215 = .ok (.lconst 0, 1) := by decide +kernel
theorem dM_lookAtRounds_216 : decode cM_lookAtRounds 216 = .ok (.lcmp, 1) := by decide +kernel
theorem dM_lookAtRounds_217 : decode cM_lookAtRounds 217 = .ok (.ifCond .ne 7, 3) := by decide +kernel
theorem dM_lookAtRounds_220 : decode cM_lookAtRounds 220 = .ok (.iconst 1, 1) := by decide +kernel
theorem dM_lookAtRounds_221 : decode cM_lookAtRounds 221 = .ok (.goto 4, 3) := by decide +kernel
theorem dM_lookAtRounds_224 : decode cM_lookAtRounds 224 = .ok (.iconst 0, 1) := by decide +kernel
theorem dM_lookAtRounds_225 : decode cM_lookAtRounds 225 = .ok (.putfield 83, 3) := by decide +kernel
theorem dM_lookAtRounds_228 : decode cM_lookAtRounds 228 = .ok (.return_, 1) := by decide +kernel
theorem dM_lookAtEdges_0 : decode cM_lookAtEdges 0 = .ok (.iconst 0, 1) := by decide +kernel
theorem dM_lookAtEdges_1 : decode cM_lookAtEdges 1 = .ok (.istore_n 1, 1) := by decide +kernel
theorem dM_lookAtEdges_2 : decode cM_lookAtEdges 2 = .ok (.iload_n 1, 1) := by decide +kernel
theorem dM_lookAtEdges_3 : decode cM_lookAtEdges 3 = .ok (.bipush 40, 2) := by decide +kernel
theorem dM_lookAtEdges_5 : decode cM_lookAtEdges 5 = .ok (.if_icmp .ge 105, 3) := by decide +kernel
theorem dM_lookAtEdges_8 : decode cM_lookAtEdges 8 = .ok (.aload_n 0, 1) := by decide +kernel
theorem dM_lookAtEdges_9 : decode cM_lookAtEdges 9 = .ok (.getfield 29, 3) := by decide +kernel
theorem dM_lookAtEdges_12 : decode cM_lookAtEdges 12 = .ok (.iload_n 1, 1) := by decide +kernel
theorem dM_lookAtEdges_13 : decode cM_lookAtEdges 13 = .ok (.lconst 0, 1) := by decide +kernel
theorem dM_lookAtEdges_14 : decode cM_lookAtEdges 14 = .ok (.lastore, 1) := by decide +kernel
theorem dM_lookAtEdges_15 : decode cM_lookAtEdges 15 = .ok (.iconst 0, 1) := by decide +kernel
theorem dM_lookAtEdges_16 : decode cM_lookAtEdges 16 = .ok (.istore_n 2, 1) := by decide +kernel
theorem dM_lookAtEdges_17 : decode cM_lookAtEdges 17 = .ok (.iload_n 2, 1) := by decide +kernel
theorem dM_lookAtEdges_18 : decode cM_lookAtEdges 18 = .ok (.bipush 40, 2) := by decide +kernel
theorem dM_lookAtEdges_20 : decode cM_lookAtEdges 20 = .ok (.if_icmp .ge 84, 3) := by decide +kernel
theorem dM_lookAtEdges_23 : decode cM_lookAtEdges 23 = .ok (.iconst 0, 1) := by decide +kernel
theorem dM_lookAtEdges_24 : decode cM_lookAtEdges 24 = .ok (.istore_n 3, 1) := by decide +kernel
theorem dM_lookAtEdges_25 : decode cM_lookAtEdges 25 = .ok (.iload_n 3, 1) := by decide +kernel
theorem dM_lookAtEdges_26 : decode cM_lookAtEdges 26 = .ok (.bipush 40, 2) := by decide +kernel
theorem dM_lookAtEdges_28 : decode cM_lookAtEdges 28 = .ok (.if_icmp .ge 70, 3) := by decide +kernel
theorem dM_lookAtEdges_31 : decode cM_lookAtEdges 31 = .ok (.aload_n 0, 1) := by decide +kernel
theorem dM_lookAtEdges_32 : decode cM_lookAtEdges 32 = .ok (.getfield 20, 3) := by decide +kernel
theorem dM_lookAtEdges_35 : decode cM_lookAtEdges 35 = .ok (.iload_n 2, 1) := by decide +kernel
theorem dM_lookAtEdges_36 : decode cM_lookAtEdges 36 = .ok (.laload, 1) := by decide +kernel
theorem dM_lookAtEdges_37 : decode cM_lookAtEdges 37 = .ok (.iload_n 1, 1) := by decide +kernel
theorem dM_lookAtEdges_38 : decode cM_lookAtEdges 38 = .ok (.invokestatic 36, 3) := by decide +kernel
theorem dM_lookAtEdges_41 : decode cM_lookAtEdges 41 = .ok (.ifCond .eq 57, 3) := by decide +kernel
theorem dM_lookAtEdges_44 : decode cM_lookAtEdges 44 = .ok (.aload_n 0, 1) := by decide +kernel
theorem dM_lookAtEdges_45 : decode cM_lookAtEdges 45 = .ok (.getfield 16, 3) := by decide +kernel
theorem dM_lookAtEdges_48 : decode cM_lookAtEdges 48 = .ok (.iload_n 2, 1) := by decide +kernel
theorem dM_lookAtEdges_49 : decode cM_lookAtEdges 49 = .ok (.laload, 1) := by decide +kernel
theorem dM_lookAtEdges_50 : decode cM_lookAtEdges 50 = .ok (.iload_n 3, 1) := by decide +kernel
theorem dM_lookAtEdges_51 : decode cM_lookAtEdges 51 = .ok (.invokestatic 36, 3) := by decide +kernel
theorem dM_lookAtEdges_54 : decode cM_lookAtEdges 54 = .ok (.ifCond .eq 38, 3) := by decide +kernel
theorem dM_lookAtEdges_57 : decode cM_lookAtEdges 57 = .ok (.aload_n 0, 1) := by decide +kernel
theorem dM_lookAtEdges_58 : decode cM_lookAtEdges 58 = .ok (.getfield 20, 3) := by decide +kernel
theorem dM_lookAtEdges_61 : decode cM_lookAtEdges 61 = .ok (.iload_n 3, 1) := by decide +kernel
theorem dM_lookAtEdges_62 : decode cM_lookAtEdges 62 = .ok (.laload, 1) := by decide +kernel
theorem dM_lookAtEdges_63 : decode cM_lookAtEdges 63 = .ok (.iload_n 1, 1) := by decide +kernel
theorem dM_lookAtEdges_64 : decode cM_lookAtEdges 64 = .ok (.invokestatic 36, 3) := by decide +kernel
theorem dM_lookAtEdges_67 : decode cM_lookAtEdges 67 = .ok (.ifCond .eq 8, 3) := by decide +kernel
theorem dM_lookAtEdges_70 : decode cM_lookAtEdges 70 = .ok (.iload_n 3, 1) := by decide +kernel
theorem dM_lookAtEdges_71 : decode cM_lookAtEdges 71 = .ok (.iload_n 1, 1) := by decide +kernel
theorem dM_lookAtEdges_72 : decode cM_lookAtEdges 72 = .ok (.if_icmp .ne 20, 3) := by decide +kernel
theorem dM_lookAtEdges_75 : decode cM_lookAtEdges 75 = .ok (.aload_n 0, 1) := by decide +kernel
theorem dM_lookAtEdges_76 : decode cM_lookAtEdges 76 = .ok (.getfield 29, 3) := by decide +kernel
theorem dM_lookAtEdges_79 : decode cM_lookAtEdges 79 = .ok (.iload_n 1, 1) := by decide +kernel
theorem dM_lookAtEdges_80 : decode cM_lookAtEdges 80 = .ok (.aload_n 0, 1) := by decide +kernel
theorem dM_lookAtEdges_81 : decode cM_lookAtEdges 81 = .ok (.getfield 29, 3) := by decide +kernel
theorem dM_lookAtEdges_84 : decode cM_lookAtEdges 84 = .ok (.iload_n 1, 1) := by decide +kernel
theorem dM_lookAtEdges_85 : decode cM_lookAtEdges 85 = .ok (.laload, 1) := by decide +kernel
theorem dM_lookAtEdges_86 : decode cM_lookAtEdges 86 = .ok (.iload_n 3, 1) := by decide +kernel
theorem dM_lookAtEdges_87 : decode cM_lookAtEdges 87 = .ok (.invokestatic 48, 3) := by decide +kernel
theorem dM_lookAtEdges_90 : decode cM_lookAtEdges 90 = .ok (.lor, 1) := by decide +kernel
theorem dM_lookAtEdges_91 : decode cM_lookAtEdges 91 = .ok (.lastore, 1) := by decide +kernel
theorem dM_lookAtEdges_92 : decode cM_lookAtEdges 92 = .ok (.iinc 3 1, 3) := by decide +kernel
theorem dM_lookAtEdges_95 : decode cM_lookAtEdges 95 = .ok (.goto (-70), 3) := by decide +kernel
theorem dM_lookAtEdges_98 : decode cM_lookAtEdges 98 = .ok (.iinc 2 1, 3) := by decide +kernel
theorem dM_lookAtEdges_101 : decode cM_lookAtEdges 101 = .ok (.goto (-84), 3) := by decide +kernel
theorem dM_lookAtEdges_104 : decode cM_lookAtEdges 104 = .ok (.iinc 1 1, 3) := by decide +kernel
theorem dM_lookAtEdges_107 : decode cM_lookAtEdges 107 = .ok (.goto (-105), 3) := by decide +kernel
theorem dM_lookAtEdges_110 : decode cM_lookAtEdges 110 = .ok (.return_, 1) := by decide +kernel
theorem dM_sizeOf_0 : decode cM_sizeOf 0 = .ok (.iconst 0, 1) := by decide +kernel
theorem dM_sizeOf_1 : decode cM_sizeOf 1 = .ok (.istore_n 2, 1) := by decide +kernel
theorem dM_sizeOf_2 : decode cM_sizeOf 2 = .ok (.iconst 0, 1) := by decide +kernel
theorem dM_sizeOf_3 : decode cM_sizeOf 3 = .ok (.istore_n 3, 1) := by decide +kernel
theorem dM_sizeOf_4 : decode cM_sizeOf 4 = .ok (.iload_n 3, 1) := by decide +kernel
theorem dM_sizeOf_5 : decode cM_sizeOf 5 = .ok (.bipush 40, 2) := by decide +kernel
theorem dM_sizeOf_7 : decode cM_sizeOf 7 = .ok (.if_icmp .ge 25, 3) := by decide +kernel
theorem dM_sizeOf_10 : decode cM_sizeOf 10 = .ok (.iload_n 2, 1) := by decide +kernel
theorem dM_sizeOf_11 : decode cM_sizeOf 11 = .ok (.lload_n 0, 1) := by decide +kernel
theorem dM_sizeOf_12 : decode cM_sizeOf 12 = .ok (.iload_n 3, 1) := by decide +kernel
theorem dM_sizeOf_13 : decode cM_sizeOf 13 = .ok (.invokestatic 36, 3) := by decide +kernel
theorem dM_sizeOf_16 : decode cM_sizeOf 16 = .ok (.ifCond .eq 7, 3) := by decide +kernel
theorem dM_sizeOf_19 : decode cM_sizeOf 19 = .ok (.iconst 1, 1) := by decide +kernel
theorem dM_sizeOf_20 : decode cM_sizeOf 20 = .ok (.goto 4, 3) := by decide +kernel
theorem dM_sizeOf_23 : decode cM_sizeOf 23 = .ok (.iconst 0, 1) := by decide +kernel
theorem dM_sizeOf_24 : decode cM_sizeOf 24 = .ok (.iadd, 1) := by decide +kernel
theorem dM_sizeOf_25 : decode cM_sizeOf 25 = .ok (.istore_n 2, 1) := by decide +kernel
theorem dM_sizeOf_26 : decode cM_sizeOf 26 = .ok (.iinc 3 1, 3) := by decide +kernel
theorem dM_sizeOf_29 : decode cM_sizeOf 29 = .ok (.goto (-25), 3) := by decide +kernel
theorem dM_sizeOf_32 : decode cM_sizeOf 32 = .ok (.iload_n 2, 1) := by decide +kernel
theorem dM_sizeOf_33 : decode cM_sizeOf 33 = .ok (.ireturn, 1) := by decide +kernel
theorem dM_in_0 : decode cM_in 0 = .ok (.iconst 0, 1) := by decide +kernel
theorem dM_in_1 : decode cM_in 1 = .ok (.istore_n 2, 1) := by decide +kernel
theorem dM_in_2 : decode cM_in 2 = .ok (.iconst 0, 1) := by decide +kernel
theorem dM_in_3 : decode cM_in 3 = .ok (.istore_n 3, 1) := by decide +kernel
theorem dM_in_4 : decode cM_in 4 = .ok (.iload_n 3, 1) := by decide +kernel
theorem dM_in_5 : decode cM_in 5 = .ok (.bipush 40, 2) := by decide +kernel
theorem dM_in_7 : decode cM_in 7 = .ok (.if_icmp .ge 30, 3) := by decide +kernel
theorem dM_in_10 : decode cM_in 10 = .ok (.iload_n 2, 1) := by decide +kernel
theorem dM_in_11 : decode cM_in 11 = .ok (.aload_n 0, 1) := by decide +kernel
theorem dM_in_12 : decode cM_in 12 = .ok (.getfield 26, 3) := by decide +kernel
theorem dM_in_15 : decode cM_in 15 = .ok (.iload_n 3, 1) := by decide +kernel
theorem dM_in_16 : decode cM_in 16 = .ok (.laload, 1) := by decide +kernel
theorem dM_in_17 : decode cM_in 17 = .ok (.iload_n 1, 1) := by decide +kernel
theorem dM_in_18 : decode cM_in 18 = .ok (.invokestatic 36, 3) := by decide +kernel
theorem dM_in_21 : decode cM_in 21 = .ok (.ifCond .eq 7, 3) := by decide +kernel
theorem dM_in_24 : decode cM_in 24 = .ok (.iconst 1, 1) := by decide +kernel
theorem dM_in_25 : decode cM_in 25 = .ok (.goto 4, 3) := by decide +kernel
theorem dM_in_28 : decode cM_in 28 = .ok (.iconst 0, 1) := by decide +kernel
theorem dM_in_29 : decode cM_in 29 = .ok (.iadd, 1) := by decide +kernel
theorem dM_in_30 : decode cM_in 30 = .ok (.istore_n 2, 1) := by decide +kernel
theorem dM_in_31 : decode cM_in 31 = .ok (.iinc 3 1, 3) := by decide +kernel
theorem dM_in_34 : decode cM_in 34 = .ok (.goto (-30), 3) := by decide +kernel
theorem dM_in_37 : decode cM_in 37 = .ok (.iload_n 2, 1) := by decide +kernel
theorem dM_in_38 : decode cM_in 38 = .ok (.ireturn, 1) := by decide +kernel
theorem dM_lid_0 : decode cM_lid 0 = .ok (.aload_n 0, 1) := by decide +kernel
theorem dM_lid_1 : decode cM_lid 1 = .ok (.iconst 0, 1) := by decide +kernel
theorem dM_lid_2 : decode cM_lid 2 = .ok (.putfield 32, 3) := by decide +kernel
theorem dM_lid_5 : decode cM_lid 5 = .ok (.aload_n 0, 1) := by decide +kernel
theorem dM_lid_6 : decode cM_lid 6 = .ok (.invokevirtual 86, 3) := by decide +kernel
theorem dM_lid_9 : decode cM_lid 9 = .ok (.iload_n 1, 1) := by decide +kernel
theorem dM_lid_10 : decode cM_lid 10 = .ok (.invokestatic 40, 3) := by decide +kernel
theorem dM_lid_13 : decode cM_lid 13 = .ok (.ifCond .eq 14, 3) := by decide +kernel
theorem dM_lid_16 : decode cM_lid 16 = .ok (.aload_n 0, 1) := by decide +kernel
theorem dM_lid_17 : decode cM_lid 17 = .ok (.getfield 20, 3) := by decide +kernel
theorem dM_lid_20 : decode cM_lid 20 = .ok (.iload_n 1, 1) := by decide +kernel
theorem dM_lid_21 : decode cM_lid 21 = .ok (.invokestatic 97, 3) := by decide +kernel
theorem dM_lid_24 : decode cM_lid 24 = .ok (.goto 4, 3) := by decide +kernel
theorem dM_lid_27 : decode cM_lid 27 = .ok (.iconst (-1), 1) := by decide +kernel
theorem dM_lid_28 : decode cM_lid 28 = .ok (.ireturn, 1) := by decide +kernel
theorem dM_nearest_0 : decode cM_nearest 0 = .ok (.aload_n 0, 1) := by decide +kernel
theorem dM_nearest_1 : decode cM_nearest 1 = .ok (.iload_n 1, 1) := by decide +kernel
theorem dM_nearest_2 : decode cM_nearest 2 = .ok (.laload, 1) := by decide +kernel
theorem dM_nearest_3 : decode cM_nearest 3 = .ok (.iload_n 1, 1) := by decide +kernel
theorem dM_nearest_4 : decode cM_nearest 4 = .ok (.invokestatic 48, 3) := by decide +kernel
theorem dM_nearest_7 : decode cM_nearest 7 = .ok (.ldc2_w 56, 3) := by decide +kernel
theorem dM_nearest_10 : decode cM_nearest 10 = .ok (.lxor, 1) := by decide +kernel
theorem dM_nearest_11 : decode cM_nearest 11 = .ok (.land, 1) := by decide +kernel
theorem dM_nearest_12 : decode cM_nearest 12 = .ok (.lstore_n 2, 1) := by decide +kernel
theorem dM_nearest_13 : decode cM_nearest 13 = .ok (.iconst 0, 1) := by decide +kernel
theorem dM_nearest_14 : decode cM_nearest 14 = .ok (.istore 4, 2) := by decide +kernel
theorem dM_nearest_16 : decode cM_nearest 16 = .ok (.iload 4, 2) := by decide +kernel
theorem dM_nearest_18 : decode cM_nearest 18 = .ok (.bipush 40, 2) := by decide +kernel
theorem dM_nearest_20 : decode cM_nearest 20 = .ok (.if_icmp .ge 30, 3) := by decide +kernel
theorem dM_nearest_23 : decode cM_nearest 23 = .ok (.lload_n 2, 1) := by decide +kernel
theorem dM_nearest_24 : decode cM_nearest 24 = .ok (.iload 4, 2) := by decide +kernel
theorem dM_nearest_26 : decode cM_nearest 26 = .ok (.invokestatic 36, 3) := by decide +kernel
theorem dM_nearest_29 : decode cM_nearest 29 = .ok (.ifCond .eq 15, 3) := by decide +kernel
theorem dM_nearest_32 : decode cM_nearest 32 = .ok (.aload_n 0, 1) := by decide +kernel
theorem dM_nearest_33 : decode cM_nearest 33 = .ok (.iload 4, 2) := by decide +kernel
theorem dM_nearest_35 : decode cM_nearest 35 = .ok (.laload, 1) := by decide +kernel
theorem dM_nearest_36 : decode cM_nearest 36 = .ok (.lload_n 2, 1) := by decide +kernel
theorem dM_nearest_37 : decode cM_nearest 37 = .ok (.lcmp, 1) := by decide +kernel
theorem dM_nearest_38 : decode cM_nearest 38 = .ok (.ifCond .ne 6, 3) := by decide +kernel
theorem dM_nearest_41 : decode cM_nearest 41 = .ok (.iload 4, 2) := by decide +kernel
theorem dM_nearest_43 : decode cM_nearest 43 = .ok (.ireturn, 1) := by decide +kernel
theorem dM_nearest_44 : decode cM_nearest 44 = .ok (.iinc 4 1, 3) := by decide +kernel
theorem dM_nearest_47 : decode cM_nearest 47 = .ok (.goto (-31), 3) := by decide +kernel
theorem dM_nearest_50 : decode cM_nearest 50 = .ok (.iconst (-1), 1) := by decide +kernel
theorem dM_nearest_51 : decode cM_nearest 51 = .ok (.ireturn, 1) := by decide +kernel
theorem dM_meeting_0 : decode cM_meeting 0 = .ok (.aload_n 0, 1) := by decide +kernel
theorem dM_meeting_1 : decode cM_meeting 1 = .ok (.iconst 0, 1) := by decide +kernel
theorem dM_meeting_2 : decode cM_meeting 2 = .ok (.putfield 32, 3) := by decide +kernel
theorem dM_meeting_5 : decode cM_meeting 5 = .ok (.aload_n 0, 1) := by decide +kernel
theorem dM_meeting_6 : decode cM_meeting 6 = .ok (.invokevirtual 86, 3) := by decide +kernel
theorem dM_meeting_9 : decode cM_meeting 9 = .ok (.iload_n 1, 1) := by decide +kernel
theorem dM_meeting_10 : decode cM_meeting 10 = .ok (.invokestatic 40, 3) := by decide +kernel
theorem dM_meeting_13 : decode cM_meeting 13 = .ok (.ifCond .eq 14, 3) := by decide +kernel
theorem dM_meeting_16 : decode cM_meeting 16 = .ok (.aload_n 0, 1) := by decide +kernel
theorem dM_meeting_17 : decode cM_meeting 17 = .ok (.getfield 23, 3) := by decide +kernel
theorem dM_meeting_20 : decode cM_meeting 20 = .ok (.iload_n 1, 1) := by decide +kernel
theorem dM_meeting_21 : decode cM_meeting 21 = .ok (.invokestatic 97, 3) := by decide +kernel
theorem dM_meeting_24 : decode cM_meeting 24 = .ok (.goto 4, 3) := by decide +kernel
theorem dM_meeting_27 : decode cM_meeting 27 = .ok (.iconst (-1), 1) := by decide +kernel
theorem dM_meeting_28 : decode cM_meeting 28 = .ok (.ireturn, 1) := by decide +kernel
theorem dM_set_0 : decode cM_set 0 = .ok (.aload_n 0, 1) := by decide +kernel
theorem dM_set_1 : decode cM_set 1 = .ok (.iconst 0, 1) := by decide +kernel
theorem dM_set_2 : decode cM_set 2 = .ok (.putfield 32, 3) := by decide +kernel
theorem dM_set_5 : decode cM_set 5 = .ok (.iload_n 2, 1) := by decide +kernel
theorem dM_set_6 : decode cM_set 6 = .ok (.invokestatic 40, 3) := by decide +kernel
theorem dM_set_9 : decode cM_set 9 = .ok (.ifCond .ne 5, 3) := by decide +kernel
theorem dM_set_12 : decode cM_set 12 = .ok (.lconst 0, 1) := by decide +kernel
theorem dM_set_13 : decode cM_set 13 = .ok (.lreturn, 1) := by decide +kernel
theorem dM_set_14 : decode cM_set 14 = .ok (.aload_n 0, 1) := by decide +kernel
theorem dM_set_15 : decode cM_set 15 = .ok (.invokevirtual 86, 3) := by decide +kernel
theorem dM_set_18 : decode cM_set 18 = .ok (.iload_n 1, 1) := by decide +kernel
theorem dM_set_19 : decode cM_set 19 = .ok (.tableswitch 77 0 5 #[37, 44, 51, 58, 65, 71], 37) := by decide +kernel
theorem dM_set_56 : decode cM_set 56 = .ok (.aload_n 0, 1) := by decide +kernel
theorem dM_set_57 : decode cM_set 57 = .ok (.getfield 20, 3) := by decide +kernel
theorem dM_set_60 : decode cM_set 60 = .ok (.iload_n 2, 1) := by decide +kernel
theorem dM_set_61 : decode cM_set 61 = .ok (.laload, 1) := by decide +kernel
theorem dM_set_62 : decode cM_set 62 = .ok (.lreturn, 1) := by decide +kernel
theorem dM_set_63 : decode cM_set 63 = .ok (.aload_n 0, 1) := by decide +kernel
theorem dM_set_64 : decode cM_set 64 = .ok (.getfield 23, 3) := by decide +kernel
theorem dM_set_67 : decode cM_set 67 = .ok (.iload_n 2, 1) := by decide +kernel
theorem dM_set_68 : decode cM_set 68 = .ok (.laload, 1) := by decide +kernel
theorem dM_set_69 : decode cM_set 69 = .ok (.lreturn, 1) := by decide +kernel
theorem dM_set_70 : decode cM_set 70 = .ok (.aload_n 0, 1) := by decide +kernel
theorem dM_set_71 : decode cM_set 71 = .ok (.getfield 26, 3) := by decide +kernel
theorem dM_set_74 : decode cM_set 74 = .ok (.iload_n 2, 1) := by decide +kernel
theorem dM_set_75 : decode cM_set 75 = .ok (.laload, 1) := by decide +kernel
theorem dM_set_76 : decode cM_set 76 = .ok (.lreturn, 1) := by decide +kernel
theorem dM_set_77 : decode cM_set 77 = .ok (.aload_n 0, 1) := by decide +kernel
theorem dM_set_78 : decode cM_set 78 = .ok (.getfield 29, 3) := by decide +kernel
theorem dM_set_81 : decode cM_set 81 = .ok (.iload_n 2, 1) := by decide +kernel
theorem dM_set_82 : decode cM_set 82 = .ok (.laload, 1) := by decide +kernel
theorem dM_set_83 : decode cM_set 83 = .ok (.lreturn, 1) := by decide +kernel
theorem dM_set_84 : decode cM_set 84 = .ok (.aload_n 0, 1) := by decide +kernel
theorem dM_set_85 : decode cM_set 85 = .ok (.iload_n 2, 1) := by decide +kernel
theorem dM_set_86 : decode cM_set 86 = .ok (.invokevirtual 101, 3) := by decide +kernel
theorem dM_set_89 : decode cM_set 89 = .ok (.lreturn, 1) := by decide +kernel
theorem dM_set_90 : decode cM_set 90 = .ok (.aload_n 0, 1) := by decide +kernel
theorem dM_set_91 : decode cM_set 91 = .ok (.iload_n 2, 1) := by decide +kernel
theorem dM_set_92 : decode cM_set 92 = .ok (.invokevirtual 104, 3) := by decide +kernel
theorem dM_set_95 : decode cM_set 95 = .ok (.lreturn, 1) := by decide +kernel
theorem dM_set_96 : decode cM_set 96 = .ok (.lconst 0, 1) := by decide +kernel
theorem dM_set_97 : decode cM_set 97 = .ok (.lreturn, 1) := by decide +kernel
theorem dM_hangsOn_0 : decode cM_hangsOn 0 = .ok (.lconst 0, 1) := by decide +kernel
theorem dM_hangsOn_1 : decode cM_hangsOn 1 = .ok (.lstore_n 2, 1) := by decide +kernel
theorem dM_hangsOn_2 : decode cM_hangsOn 2 = .ok (.iconst 0, 1) := by decide +kernel
theorem dM_hangsOn_3 : decode cM_hangsOn 3 = .ok (.istore 4, 2) := by decide +kernel
theorem dM_hangsOn_5 : decode cM_hangsOn 5 = .ok (.iload 4, 2) := by decide +kernel
theorem dM_hangsOn_7 : decode cM_hangsOn 7 = .ok (.bipush 40, 2) := by decide +kernel
end
section
theorem dM_hangsOn_9 : decode cM_hangsOn 9 = .ok (.if_icmp .ge 97, 3) := by decide +kernel
theorem dM_hangsOn_12 : decode cM_hangsOn 12 = .ok (.aload_n 0, 1) := by decide +kernel
theorem dM_hangsOn_13 : decode cM_hangsOn 13 = .ok (.getfield 71, 3) := by decide +kernel
theorem dM_hangsOn_16 : decode cM_hangsOn 16 = .ok (.iload 4, 2) := by decide +kernel
theorem dM_hangsOn_18 : decode cM_hangsOn 18 = .ok (.invokestatic 36, 3) := by decide +kernel
theorem dM_hangsOn_21 : decode cM_hangsOn 21 = .ok (.ifCond .eq 79, 3) := by decide +kernel
theorem dM_hangsOn_24 : decode cM_hangsOn 24 = .ok (.aload_n 0, 1) := by decide +kernel
theorem dM_hangsOn_25 : decode cM_hangsOn 25 = .ok (.getfield 23, 3) := by decide +kernel
theorem dM_hangsOn_28 : decode cM_hangsOn 28 = .ok (.iload 4, 2) := by decide +kernel
theorem dM_hangsOn_30 : decode cM_hangsOn 30 = .ok (.laload, 1) := by decide +kernel
theorem dM_hangsOn_31 : decode cM_hangsOn 31 = .ok (.iload_n 1, 1) := by decide +kernel
theorem dM_hangsOn_32 : decode cM_hangsOn 32 = .ok (.invokestatic 36, 3) := by decide +kernel
theorem dM_hangsOn_35 : decode cM_hangsOn 35 = .ok (.ifCond .eq 12, 3) := by decide +kernel
theorem dM_hangsOn_38 : decode cM_hangsOn 38 = .ok (.iload 4, 2) := by decide +kernel
theorem dM_hangsOn_40 : decode cM_hangsOn 40 = .ok (.iload_n 1, 1) := by decide +kernel
theorem dM_hangsOn_41 : decode cM_hangsOn 41 = .ok (.if_icmp .eq 6, 3) := by decide +kernel
theorem dM_hangsOn_44 : decode cM_hangsOn 44 = .ok (.goto 56, 3) := by decide +kernel
theorem dM_hangsOn_47 : decode cM_hangsOn 47 = .ok (.iconst 0, 1) := by decide +kernel
theorem dM_hangsOn_48 : decode cM_hangsOn 48 = .ok (.istore 5, 2) := by decide +kernel
theorem dM_hangsOn_50 : decode cM_hangsOn 50 = .ok (.iload 5, 2) := by decide +kernel
theorem dM_hangsOn_52 : decode cM_hangsOn 52 = .ok (.bipush 40, 2) := by decide +kernel
theorem dM_hangsOn_54 : decode cM_hangsOn 54 = .ok (.if_icmp .ge 46, 3) := by decide +kernel
theorem dM_hangsOn_57 : decode cM_hangsOn 57 = .ok (.aload_n 0, 1) := by decide +kernel
theorem dM_hangsOn_58 : decode cM_hangsOn 58 = .ok (.getfield 16, 3) := by decide +kernel
theorem dM_hangsOn_61 : decode cM_hangsOn 61 = .ok (.iload 4, 2) := by decide +kernel
theorem dM_hangsOn_63 : decode cM_hangsOn 63 = .ok (.laload, 1) := by decide +kernel
theorem dM_hangsOn_64 : decode cM_hangsOn 64 = .ok (.iload 5, 2) := by decide +kernel
theorem dM_hangsOn_66 : decode cM_hangsOn 66 = .ok (.invokestatic 36, 3) := by decide +kernel
theorem dM_hangsOn_69 : decode cM_hangsOn 69 = .ok (.ifCond .eq 25, 3) := by decide +kernel
theorem dM_hangsOn_72 : decode cM_hangsOn 72 = .ok (.aload_n 0, 1) := by decide +kernel
theorem dM_hangsOn_73 : decode cM_hangsOn 73 = .ok (.getfield 23, 3) := by decide +kernel
theorem dM_hangsOn_76 : decode cM_hangsOn 76 = .ok (.iload 5, 2) := by decide +kernel
theorem dM_hangsOn_78 : decode cM_hangsOn 78 = .ok (.laload, 1) := by decide +kernel
theorem dM_hangsOn_79 : decode cM_hangsOn 79 = .ok (.iload_n 1, 1) := by decide +kernel
theorem dM_hangsOn_80 : decode cM_hangsOn 80 = .ok (.invokestatic 36, 3) := by decide +kernel
theorem dM_hangsOn_83 : decode cM_hangsOn 83 = .ok (.ifCond .eq 11, 3) := by decide +kernel
theorem dM_hangsOn_86 : decode cM_hangsOn 86 = .ok (.lload_n 2, 1) := by decide +kernel
theorem dM_hangsOn_87 : decode cM_hangsOn 87 = .ok (.iload 4, 2) := by decide +kernel
theorem dM_hangsOn_89 : decode cM_hangsOn 89 = .ok (.invokestatic 48, 3) := by decide +kernel
theorem dM_hangsOn_92 : decode cM_hangsOn 92 = .ok (.lor, 1) := by decide +kernel
theorem dM_hangsOn_93 : decode cM_hangsOn 93 = .ok (.lstore_n 2, 1) := by decide +kernel
theorem dM_hangsOn_94 : decode cM_hangsOn 94 = .ok (.iinc 5 1, 3) := by decide +kernel
theorem dM_hangsOn_97 : decode cM_hangsOn 97 = .ok (.goto (-47), 3) := by decide +kernel
theorem dM_hangsOn_100 : decode cM_hangsOn 100 = .ok (.iinc 4 1, 3) := by decide +kernel
theorem dM_hangsOn_103 : decode cM_hangsOn 103 = .ok (.goto (-98), 3) := by decide +kernel
theorem dM_hangsOn_106 : decode cM_hangsOn 106 = .ok (.lload_n 2, 1) := by decide +kernel
theorem dM_hangsOn_107 : decode cM_hangsOn 107 = .ok (.lreturn, 1) := by decide +kernel
theorem dM_under_0 : decode cM_under 0 = .ok (.lconst 0, 1) := by decide +kernel
theorem dM_under_1 : decode cM_under 1 = .ok (.lstore_n 2, 1) := by decide +kernel
theorem dM_under_2 : decode cM_under 2 = .ok (.iconst 0, 1) := by decide +kernel
theorem dM_under_3 : decode cM_under 3 = .ok (.istore 4, 2) := by decide +kernel
theorem dM_under_5 : decode cM_under 5 = .ok (.iload 4, 2) := by decide +kernel
theorem dM_under_7 : decode cM_under 7 = .ok (.bipush 40, 2) := by decide +kernel
theorem dM_under_9 : decode cM_under 9 = .ok (.if_icmp .ge 31, 3) := by decide +kernel
theorem dM_under_12 : decode cM_under 12 = .ok (.aload_n 0, 1) := by decide +kernel
theorem dM_under_13 : decode cM_under 13 = .ok (.getfield 20, 3) := by decide +kernel
theorem dM_under_16 : decode cM_under 16 = .ok (.iload 4, 2) := by decide +kernel
theorem dM_under_18 : decode cM_under 18 = .ok (.laload, 1) := by decide +kernel
theorem dM_under_19 : decode cM_under 19 = .ok (.iload_n 1, 1) := by decide +kernel
theorem dM_under_20 : decode cM_under 20 = .ok (.invokestatic 36, 3) := by decide +kernel
theorem dM_under_23 : decode cM_under 23 = .ok (.ifCond .eq 11, 3) := by decide +kernel
theorem dM_under_26 : decode cM_under 26 = .ok (.lload_n 2, 1) := by decide +kernel
theorem dM_under_27 : decode cM_under 27 = .ok (.iload 4, 2) := by decide +kernel
theorem dM_under_29 : decode cM_under 29 = .ok (.invokestatic 48, 3) := by decide +kernel
theorem dM_under_32 : decode cM_under 32 = .ok (.lor, 1) := by decide +kernel
theorem dM_under_33 : decode cM_under 33 = .ok (.lstore_n 2, 1) := by decide +kernel
theorem dM_under_34 : decode cM_under 34 = .ok (.iinc 4 1, 3) := by decide +kernel
theorem dM_under_37 : decode cM_under 37 = .ok (.goto (-32), 3) := by decide +kernel
theorem dM_under_40 : decode cM_under 40 = .ok (.lload_n 2, 1) := by decide +kernel
theorem dM_under_41 : decode cM_under 41 = .ok (.lreturn, 1) := by decide +kernel
theorem dM_depth_0 : decode cM_depth 0 = .ok (.aload_n 0, 1) := by decide +kernel
theorem dM_depth_1 : decode cM_depth 1 = .ok (.iconst 0, 1) := by decide +kernel
theorem dM_depth_2 : decode cM_depth 2 = .ok (.putfield 32, 3) := by decide +kernel
theorem dM_depth_5 : decode cM_depth 5 = .ok (.aload_n 0, 1) := by decide +kernel
theorem dM_depth_6 : decode cM_depth 6 = .ok (.invokevirtual 86, 3) := by decide +kernel
theorem dM_depth_9 : decode cM_depth 9 = .ok (.iload_n 1, 1) := by decide +kernel
theorem dM_depth_10 : decode cM_depth 10 = .ok (.invokestatic 40, 3) := by decide +kernel
theorem dM_depth_13 : decode cM_depth 13 = .ok (.ifCond .eq 22, 3) := by decide +kernel
theorem dM_depth_16 : decode cM_depth 16 = .ok (.aload_n 0, 1) := by decide +kernel
theorem dM_depth_17 : decode cM_depth 17 = .ok (.getfield 64, 3) := by decide +kernel
theorem dM_depth_20 : decode cM_depth 20 = .ok (.iload_n 1, 1) := by decide +kernel
theorem dM_depth_21 : decode cM_depth 21 = .ok (.invokestatic 36, 3) := by decide +kernel
theorem dM_depth_24 : decode cM_depth 24 = .ok (.ifCond .eq 11, 3) := by decide +kernel
theorem dM_depth_27 : decode cM_depth 27 = .ok (.aload_n 0, 1) := by decide +kernel
theorem dM_depth_28 : decode cM_depth 28 = .ok (.iload_n 1, 1) := by decide +kernel
theorem dM_depth_29 : decode cM_depth 29 = .ok (.invokevirtual 93, 3) := by decide +kernel
theorem dM_depth_32 : decode cM_depth 32 = .ok (.goto 4, 3) := by decide +kernel
theorem dM_depth_35 : decode cM_depth 35 = .ok (.iconst (-1), 1) := by decide +kernel
theorem dM_depth_36 : decode cM_depth 36 = .ok (.ireturn, 1) := by decide +kernel
theorem dM_inner_0 : decode cM_inner 0 = .ok (.aload_n 0, 1) := by decide +kernel
theorem dM_inner_1 : decode cM_inner 1 = .ok (.invokevirtual 86, 3) := by decide +kernel
theorem dM_inner_4 : decode cM_inner 4 = .ok (.iconst (-1), 1) := by decide +kernel
theorem dM_inner_5 : decode cM_inner 5 = .ok (.istore_n 2, 1) := by decide +kernel
theorem dM_inner_6 : decode cM_inner 6 = .ok (.iconst 0, 1) := by decide +kernel
theorem dM_inner_7 : decode cM_inner 7 = .ok (.istore_n 3, 1) := by decide +kernel
theorem dM_inner_8 : decode cM_inner 8 = .ok (.iload_n 3, 1) := by decide +kernel
theorem dM_inner_9 : decode cM_inner 9 = .ok (.bipush 40, 2) := by decide +kernel
theorem dM_inner_11 : decode cM_inner 11 = .ok (.if_icmp .ge 57, 3) := by decide +kernel
theorem dM_inner_14 : decode cM_inner 14 = .ok (.iload_n 1, 1) := by decide +kernel
theorem dM_inner_15 : decode cM_inner 15 = .ok (.invokestatic 40, 3) := by decide +kernel
theorem dM_inner_18 : decode cM_inner 18 = .ok (.ifCond .eq 50, 3) := by decide +kernel
theorem dM_inner_21 : decode cM_inner 21 = .ok (.aload_n 0, 1) := by decide +kernel
theorem dM_inner_22 : decode cM_inner 22 = .ok (.getfield 26, 3) := by decide +kernel
theorem dM_inner_25 : decode cM_inner 25 = .ok (.iload_n 3, 1) := by decide +kernel
theorem dM_inner_26 : decode cM_inner 26 = .ok (.laload, 1) := by decide +kernel
theorem dM_inner_27 : decode cM_inner 27 = .ok (.iload_n 1, 1) := by decide +kernel
theorem dM_inner_28 : decode cM_inner 28 = .ok (.invokestatic 36, 3) := by decide +kernel
theorem dM_inner_31 : decode cM_inner 31 = .ok (.ifCond .eq 31, 3) := by decide +kernel
theorem dM_inner_34 : decode cM_inner 34 = .ok (.iload_n 2, 1) := by decide +kernel
theorem dM_inner_35 : decode cM_inner 35 = .ok (.iconst (-1), 1) := by decide +kernel
theorem dM_inner_36 : decode cM_inner 36 = .ok (.if_icmp .eq 24, 3) := by decide +kernel
theorem dM_inner_39 : decode cM_inner 39 = .ok (.aload_n 0, 1) := by decide +kernel
theorem dM_inner_40 : decode cM_inner 40 = .ok (.getfield 26, 3) := by decide +kernel
theorem dM_inner_43 : decode cM_inner 43 = .ok (.iload_n 3, 1) := by decide +kernel
theorem dM_inner_44 : decode cM_inner 44 = .ok (.laload, 1) := by decide +kernel
theorem dM_inner_45 : decode cM_inner 45 = .ok (.invokestatic 89, 3) := by decide +kernel
theorem dM_inner_48 : decode cM_inner 48 = .ok (.aload_n 0, 1) := by decide +kernel
theorem dM_inner_49 : decode cM_inner 49 = .ok (.getfield 26, 3) := by decide +kernel
theorem dM_inner_52 : decode cM_inner 52 = .ok (.iload_n 2, 1) := by decide +kernel
theorem dM_inner_53 : decode cM_inner 53 = .ok (.laload, 1) := by decide +kernel
theorem dM_inner_54 : decode cM_inner 54 = .ok (.invokestatic 89, 3) := by decide +kernel
theorem dM_inner_57 : decode cM_inner 57 = .ok (.if_icmp .ge 5, 3) := by decide +kernel
theorem dM_inner_60 : decode cM_inner 60 = .ok (.iload_n 3, 1) := by decide +kernel
theorem dM_inner_61 : decode cM_inner 61 = .ok (.istore_n 2, 1) := by decide +kernel
theorem dM_inner_62 : decode cM_inner 62 = .ok (.iinc 3 1, 3) := by decide +kernel
theorem dM_inner_65 : decode cM_inner 65 = .ok (.goto (-57), 3) := by decide +kernel
theorem dM_inner_68 : decode cM_inner 68 = .ok (.aload_n 0, 1) := by decide +kernel
theorem dM_inner_69 : decode cM_inner 69 = .ok (.iload_n 2, 1) := by decide +kernel
theorem dM_inner_70 : decode cM_inner 70 = .ok (.iconst (-1), 1) := by decide +kernel
theorem dM_inner_71 : decode cM_inner 71 = .ok (.if_icmp .ne 7, 3) := by decide +kernel
theorem dM_inner_74 : decode cM_inner 74 = .ok (.iconst 1, 1) := by decide +kernel
theorem dM_inner_75 : decode cM_inner 75 = .ok (.goto 4, 3) := by decide +kernel
theorem dM_inner_78 : decode cM_inner 78 = .ok (.iconst 0, 1) := by decide +kernel
theorem dM_inner_79 : decode cM_inner 79 = .ok (.putfield 32, 3) := by decide +kernel
theorem dM_inner_82 : decode cM_inner 82 = .ok (.aload_n 0, 1) := by decide +kernel
theorem dM_inner_83 : decode cM_inner 83 = .ok (.getfield 32, 3) := by decide +kernel
theorem dM_inner_86 : decode cM_inner 86 = .ok (.ifCond .le 7, 3) := by decide +kernel
theorem dM_inner_89 : decode cM_inner 89 = .ok (.iconst 0, 1) := by decide +kernel
theorem dM_inner_90 : decode cM_inner 90 = .ok (.goto 4, 3) := by decide +kernel
theorem dM_inner_93 : decode cM_inner 93 = .ok (.iload_n 2, 1) := by decide +kernel
theorem dM_inner_94 : decode cM_inner 94 = .ok (.ireturn, 1) := by decide +kernel
theorem dM_joins_0 : decode cM_joins 0 = .ok (.aload_n 0, 1) := by decide +kernel
theorem dM_joins_1 : decode cM_joins 1 = .ok (.iconst 0, 1) := by decide +kernel
theorem dM_joins_2 : decode cM_joins 2 = .ok (.putfield 32, 3) := by decide +kernel
theorem dM_joins_5 : decode cM_joins 5 = .ok (.aload_n 0, 1) := by decide +kernel
theorem dM_joins_6 : decode cM_joins 6 = .ok (.invokevirtual 86, 3) := by decide +kernel
theorem dM_joins_9 : decode cM_joins 9 = .ok (.lconst 0, 1) := by decide +kernel
theorem dM_joins_10 : decode cM_joins 10 = .ok (.lstore_n 3, 1) := by decide +kernel
theorem dM_joins_11 : decode cM_joins 11 = .ok (.iconst 1, 1) := by decide +kernel
theorem dM_joins_12 : decode cM_joins 12 = .ok (.istore 5, 2) := by decide +kernel
theorem dM_joins_14 : decode cM_joins 14 = .ok (.iload 5, 2) := by decide +kernel
theorem dM_joins_16 : decode cM_joins 16 = .ok (.ifCond .eq 70, 3) := by decide +kernel
theorem dM_joins_19 : decode cM_joins 19 = .ok (.lload_n 3, 1) := by decide +kernel
theorem dM_joins_20 : decode cM_joins 20 = .ok (.lstore 6, 2) := by decide +kernel
theorem dM_joins_22 : decode cM_joins 22 = .ok (.iconst 0, 1) := by decide +kernel
theorem dM_joins_23 : decode cM_joins 23 = .ok (.istore 8, 2) := by decide +kernel
theorem dM_joins_25 : decode cM_joins 25 = .ok (.iload 8, 2) := by decide +kernel
theorem dM_joins_27 : decode cM_joins 27 = .ok (.bipush 40, 2) := by decide +kernel
theorem dM_joins_29 : decode cM_joins 29 = .ok (.if_icmp .ge 37, 3) := by decide +kernel
theorem dM_joins_32 : decode cM_joins 32 = .ok (.lload_n 1, 1) := by decide +kernel
theorem dM_joins_33 : decode cM_joins 33 = .ok (.lload_n 3, 1) := by decide +kernel
theorem dM_joins_34 : decode cM_joins 34 = .ok (.lor, 1) := by decide +kernel
theorem dM_joins_35 : decode cM_joins 35 = .ok (.aload_n 0, 1) := by decide +kernel
theorem dM_joins_36 : decode cM_joins 36 = .ok (.getfield 64, 3) := by decide +kernel
theorem dM_joins_39 : decode cM_joins 39 = .ok (.land, 1) := by decide +kernel
theorem dM_joins_40 : decode cM_joins 40 = .ok (.iload 8, 2) := by decide +kernel
theorem dM_joins_42 : decode cM_joins 42 = .ok (.invokestatic 36, 3) := by decide +kernel
theorem dM_joins_45 : decode cM_joins 45 = .ok (.ifCond .eq 15, 3) := by decide +kernel
theorem dM_joins_48 : decode cM_joins 48 = .ok (.lload 6, 2) := by decide +kernel
theorem dM_joins_50 : decode cM_joins 50 = .ok (.aload_n 0, 1) := by decide +kernel
theorem dM_joins_51 : decode cM_joins 51 = .ok (.getfield 29, 3) := by decide +kernel
theorem dM_joins_54 : decode cM_joins 54 = .ok (.iload 8, 2) := by decide +kernel
theorem dM_joins_56 : decode cM_joins 56 = .ok (.laload, 1) := by decide +kernel
theorem dM_joins_57 : decode cM_joins 57 = .ok (.lor, 1) := by decide +kernel
theorem dM_joins_58 : decode cM_joins 58 = .ok (.lstore 6, 2) := by decide +kernel
theorem dM_joins_60 : decode cM_joins 60 = .ok (.iinc 8 1, 3) := by decide +kernel
theorem dM_joins_63 : decode cM_joins 63 = .ok (.goto (-38), 3) := by decide +kernel
theorem dM_joins_66 : decode cM_joins 66 = .ok (.lload 6, 2) := by decide +kernel
theorem dM_joins_68 : decode cM_joins 68 = .ok (.lload_n 3, 1) := by decide +kernel
theorem dM_joins_69 : decode cM_joins 69 = .ok (.lcmp, 1) := by decide +kernel
theorem dM_joins_70 : decode cM_joins 70 = .ok (.ifCond .eq 7, 3) := by decide +kernel
theorem dM_joins_73 : decode cM_joins 73 = .ok (.iconst 1, 1) := by decide +kernel
theorem dM_joins_74 : decode cM_joins 74 = .ok (.goto 4, 3) := by decide +kernel
theorem dM_joins_77 : decode cM_joins 77 = .ok (.iconst 0, 1) := by decide +kernel
theorem dM_joins_78 : decode cM_joins 78 = .ok (.istore 5, 2) := by decide +kernel
theorem dM_joins_80 : decode cM_joins 80 = .ok (.lload 6, 2) := by decide +kernel
theorem dM_joins_82 : decode cM_joins 82 = .ok (.lstore_n 3, 1) := by decide +kernel
theorem dM_joins_83 : decode cM_joins 83 = .ok (.goto (-69), 3) := by decide +kernel
theorem dM_joins_86 : decode cM_joins 86 = .ok (.lload_n 3, 1) := by decide +kernel
theorem dM_joins_87 : decode cM_joins 87 = .ok (.lreturn, 1) := by decide +kernel
theorem dL_law_0 : decode cL_law 0 = .ok (.new 8, 3) := by decide +kernel
theorem dL_law_3 : decode cL_law 3 = .ok (.dup, 1) := by decide +kernel
theorem dL_law_4 : decode cL_law 4 = .ok (.invokespecial 15, 3) := by decide +kernel
theorem dL_law_7 : decode cL_law 7 = .ok (.astore_n 1, 1) := by decide +kernel
theorem dL_law_8 : decode cL_law 8 = .ok (.new 16, 3) := by decide +kernel
theorem dL_law_11 : decode cL_law 11 = .ok (.dup, 1) := by decide +kernel
theorem dL_law_12 : decode cL_law 12 = .ok (.invokespecial 18, 3) := by decide +kernel
theorem dL_law_15 : decode cL_law 15 = .ok (.astore_n 2, 1) := by decide +kernel
theorem dL_law_16 : decode cL_law 16 = .ok (.iconst 1, 1) := by decide +kernel
theorem dL_law_17 : decode cL_law 17 = .ok (.newarray .long, 2) := by decide +kernel
theorem dL_law_19 : decode cL_law 19 = .ok (.astore_n 3, 1) := by decide +kernel
theorem dL_law_20 : decode cL_law 20 = .ok (.iconst 0, 1) := by decide +kernel
theorem dL_law_21 : decode cL_law 21 = .ok (.istore 4, 2) := by decide +kernel
theorem dL_law_23 : decode cL_law 23 = .ok (.iload 4, 2) := by decide +kernel
theorem dL_law_25 : decode cL_law 25 = .ok (.aload_n 0, 1) := by decide +kernel
theorem dL_law_26 : decode cL_law 26 = .ok (.arraylength, 1) := by decide +kernel
theorem dL_law_27 : decode cL_law 27 = .ok (.iconst 3, 1) := by decide +kernel
theorem dL_law_28 : decode cL_law 28 = .ok (.isub, 1) := by decide +kernel
theorem dL_law_29 : decode cL_law 29 = .ok (.if_icmp .gt 408, 3) := by decide +kernel
theorem dL_law_32 : decode cL_law 32 = .ok (.aload_n 0, 1) := by decide +kernel
theorem dL_law_33 : decode cL_law 33 = .ok (.iload 4, 2) := by decide +kernel
theorem dL_law_35 : decode cL_law 35 = .ok (.iaload, 1) := by decide +kernel
theorem dL_law_36 : decode cL_law 36 = .ok (.bipush 15, 2) := by decide +kernel
theorem dL_law_38 : decode cL_law 38 = .ok (.iand, 1) := by decide +kernel
theorem dL_law_39 : decode cL_law 39 = .ok (.tableswitch 392 0 9 #[53, 78, 115, 140, 165, 190, 215, 253, 278, 334], 53) := by decide +kernel
theorem dL_law_92 : decode cL_law 92 = .ok (.aload_n 1, 1) := by decide +kernel
theorem dL_law_93 : decode cL_law 93 = .ok (.aload_n 0, 1) := by decide +kernel
theorem dL_law_94 : decode cL_law 94 = .ok (.iload 4, 2) := by decide +kernel
theorem dL_law_96 : decode cL_law 96 = .ok (.iconst 1, 1) := by decide +kernel
theorem dL_law_97 : decode cL_law 97 = .ok (.iadd, 1) := by decide +kernel
theorem dL_law_98 : decode cL_law 98 = .ok (.iaload, 1) := by decide +kernel
theorem dL_law_99 : decode cL_law 99 = .ok (.invokevirtual 19, 3) := by decide +kernel
theorem dL_law_102 : decode cL_law 102 = .ok (.aload_n 2, 1) := by decide +kernel
theorem dL_law_103 : decode cL_law 103 = .ok (.aload_n 0, 1) := by decide +kernel
theorem dL_law_104 : decode cL_law 104 = .ok (.iload 4, 2) := by decide +kernel
theorem dL_law_106 : decode cL_law 106 = .ok (.iconst 1, 1) := by decide +kernel
theorem dL_law_107 : decode cL_law 107 = .ok (.iadd, 1) := by decide +kernel
theorem dL_law_108 : decode cL_law 108 = .ok (.iaload, 1) := by decide +kernel
theorem dL_law_109 : decode cL_law 109 = .ok (.invokevirtual 23, 3) := by decide +kernel
theorem dL_law_112 : decode cL_law 112 = .ok (.if_icmp .eq 319, 3) := by decide +kernel
theorem dL_law_115 : decode cL_law 115 = .ok (.iconst 0, 1) := by decide +kernel
theorem dL_law_116 : decode cL_law 116 = .ok (.ireturn, 1) := by decide +kernel
theorem dL_law_117 : decode cL_law 117 = .ok (.aload_n 1, 1) := by decide +kernel
theorem dL_law_118 : decode cL_law 118 = .ok (.aload_n 0, 1) := by decide +kernel
theorem dL_law_119 : decode cL_law 119 = .ok (.iload 4, 2) := by decide +kernel
theorem dL_law_121 : decode cL_law 121 = .ok (.iconst 1, 1) := by decide +kernel
theorem dL_law_122 : decode cL_law 122 = .ok (.iadd, 1) := by decide +kernel
theorem dL_law_123 : decode cL_law 123 = .ok (.iaload, 1) := by decide +kernel
theorem dL_law_124 : decode cL_law 124 = .ok (.aload_n 0, 1) := by decide +kernel
theorem dL_law_125 : decode cL_law 125 = .ok (.iload 4, 2) := by decide +kernel
theorem dL_law_127 : decode cL_law 127 = .ok (.iconst 2, 1) := by decide +kernel
theorem dL_law_128 : decode cL_law 128 = .ok (.iadd, 1) := by decide +kernel
theorem dL_law_129 : decode cL_law 129 = .ok (.iaload, 1) := by decide +kernel
theorem dL_law_130 : decode cL_law 130 = .ok (.invokevirtual 24, 3) := by decide +kernel
theorem dL_law_133 : decode cL_law 133 = .ok (.aload_n 2, 1) := by decide +kernel
theorem dL_law_134 : decode cL_law 134 = .ok (.aload_n 0, 1) := by decide +kernel
theorem dL_law_135 : decode cL_law 135 = .ok (.iload 4, 2) := by decide +kernel
theorem dL_law_137 : decode cL_law 137 = .ok (.iconst 1, 1) := by decide +kernel
theorem dL_law_138 : decode cL_law 138 = .ok (.iadd, 1) := by decide +kernel
theorem dL_law_139 : decode cL_law 139 = .ok (.iaload, 1) := by decide +kernel
theorem dL_law_140 : decode cL_law 140 = .ok (.aload_n 0, 1) := by decide +kernel
theorem dL_law_141 : decode cL_law 141 = .ok (.iload 4, 2) := by decide +kernel
theorem dL_law_143 : decode cL_law 143 = .ok (.iconst 2, 1) := by decide +kernel
theorem dL_law_144 : decode cL_law 144 = .ok (.iadd, 1) := by decide +kernel
theorem dL_law_145 : decode cL_law 145 = .ok (.iaload, 1) := by decide +kernel
theorem dL_law_146 : decode cL_law 146 = .ok (.invokevirtual 28, 3) := by decide +kernel
theorem dL_law_149 : decode cL_law 149 = .ok (.if_icmp .eq 282, 3) := by decide +kernel
theorem dL_law_152 : decode cL_law 152 = .ok (.iconst 0, 1) := by decide +kernel
theorem dL_law_153 : decode cL_law 153 = .ok (.ireturn, 1) := by decide +kernel
theorem dL_law_154 : decode cL_law 154 = .ok (.aload_n 1, 1) := by decide +kernel
theorem dL_law_155 : decode cL_law 155 = .ok (.aload_n 0, 1) := by decide +kernel
theorem dL_law_156 : decode cL_law 156 = .ok (.iload 4, 2) := by decide +kernel
theorem dL_law_158 : decode cL_law 158 = .ok (.iconst 1, 1) := by decide +kernel
theorem dL_law_159 : decode cL_law 159 = .ok (.iadd, 1) := by decide +kernel
theorem dL_law_160 : decode cL_law 160 = .ok (.iaload, 1) := by decide +kernel
theorem dL_law_161 : decode cL_law 161 = .ok (.invokevirtual 29, 3) := by decide +kernel
theorem dL_law_164 : decode cL_law 164 = .ok (.aload_n 2, 1) := by decide +kernel
theorem dL_law_165 : decode cL_law 165 = .ok (.aload_n 0, 1) := by decide +kernel
theorem dL_law_166 : decode cL_law 166 = .ok (.iload 4, 2) := by decide +kernel
theorem dL_law_168 : decode cL_law 168 = .ok (.iconst 1, 1) := by decide +kernel
theorem dL_law_169 : decode cL_law 169 = .ok (.iadd, 1) := by decide +kernel
theorem dL_law_170 : decode cL_law 170 = .ok (.iaload, 1) := by decide +kernel
theorem dL_law_171 : decode cL_law 171 = .ok (.invokevirtual 32, 3) := by decide +kernel
theorem dL_law_174 : decode cL_law 174 = .ok (.if_icmp .eq 257, 3) := by decide +kernel
theorem dL_law_177 : decode cL_law 177 = .ok (.iconst 0, 1) := by decide +kernel
theorem dL_law_178 : decode cL_law 178 = .ok (.ireturn, 1) := by decide +kernel
theorem dL_law_179 : decode cL_law 179 = .ok (.aload_n 1, 1) := by decide +kernel
theorem dL_law_180 : decode cL_law 180 = .ok (.aload_n 0, 1) := by decide +kernel
theorem dL_law_181 : decode cL_law 181 = .ok (.iload 4, 2) := by decide +kernel
theorem dL_law_183 : decode cL_law 183 = .ok (.iconst 1, 1) := by decide +kernel
theorem dL_law_184 : decode cL_law 184 = .ok (.iadd, 1) := by decide +kernel
theorem dL_law_185 : decode cL_law 185 = .ok (.iaload, 1) := by decide +kernel
theorem dL_law_186 : decode cL_law 186 = .ok (.invokevirtual 33, 3) := by decide +kernel
theorem dL_law_189 : decode cL_law 189 = .ok (.aload_n 2, 1) := by decide +kernel
theorem dL_law_190 : decode cL_law 190 = .ok (.aload_n 0, 1) := by decide +kernel
theorem dL_law_191 : decode cL_law 191 = .ok (.iload 4, 2) := by decide +kernel
theorem dL_law_193 : decode cL_law 193 = .ok (.iconst 1, 1) := by decide +kernel
theorem dL_law_194 : decode cL_law 194 = .ok (.iadd, 1) := by decide +kernel
theorem dL_law_195 : decode cL_law 195 = .ok (.iaload, 1) := by decide +kernel
theorem dL_law_196 : decode cL_law 196 = .ok (.invokevirtual 36, 3) := by decide +kernel
theorem dL_law_199 : decode cL_law 199 = .ok (.if_icmp .eq 232, 3) := by decide +kernel
theorem dL_law_202 : decode cL_law 202 = .ok (.iconst 0, 1) := by decide +kernel
theorem dL_law_203 : decode cL_law 203 = .ok (.ireturn, 1) := by decide +kernel
theorem dL_law_204 : decode cL_law 204 = .ok (.aload_n 1, 1) := by decide +kernel
theorem dL_law_205 : decode cL_law 205 = .ok (.aload_n 0, 1) := by decide +kernel
theorem dL_law_206 : decode cL_law 206 = .ok (.iload 4, 2) := by decide +kernel
theorem dL_law_208 : decode cL_law 208 = .ok (.iconst 1, 1) := by decide +kernel
theorem dL_law_209 : decode cL_law 209 = .ok (.iadd, 1) := by decide +kernel
theorem dL_law_210 : decode cL_law 210 = .ok (.iaload, 1) := by decide +kernel
theorem dL_law_211 : decode cL_law 211 = .ok (.invokevirtual 37, 3) := by decide +kernel
theorem dL_law_214 : decode cL_law 214 = .ok (.aload_n 2, 1) := by decide +kernel
theorem dL_law_215 : decode cL_law 215 = .ok (.aload_n 0, 1) := by decide +kernel
theorem dL_law_216 : decode cL_law 216 = .ok (.iload 4, 2) := by decide +kernel
theorem dL_law_218 : decode cL_law 218 = .ok (.iconst 1, 1) := by decide +kernel
theorem dL_law_219 : decode cL_law 219 = .ok (.iadd, 1) := by decide +kernel
theorem dL_law_220 : decode cL_law 220 = .ok (.iaload, 1) := by decide +kernel
theorem dL_law_221 : decode cL_law 221 = .ok (.invokevirtual 40, 3) := by decide +kernel
theorem dL_law_224 : decode cL_law 224 = .ok (.if_icmp .eq 207, 3) := by decide +kernel
theorem dL_law_227 : decode cL_law 227 = .ok (.iconst 0, 1) := by decide +kernel
theorem dL_law_228 : decode cL_law 228 = .ok (.ireturn, 1) := by decide +kernel
theorem dL_law_229 : decode cL_law 229 = .ok (.aload_n 1, 1) := by decide +kernel
theorem dL_law_230 : decode cL_law 230 = .ok (.aload_n 0, 1) := by decide +kernel
theorem dL_law_231 : decode cL_law 231 = .ok (.iload 4, 2) := by decide +kernel
theorem dL_law_233 : decode cL_law 233 = .ok (.iconst 1, 1) := by decide +kernel
theorem dL_law_234 : decode cL_law 234 = .ok (.iadd, 1) := by decide +kernel
theorem dL_law_235 : decode cL_law 235 = .ok (.iaload, 1) := by decide +kernel
theorem dL_law_236 : decode cL_law 236 = .ok (.invokevirtual 41, 3) := by decide +kernel
theorem dL_law_239 : decode cL_law 239 = .ok (.aload_n 2, 1) := by decide +kernel
theorem dL_law_240 : decode cL_law 240 = .ok (.aload_n 0, 1) := by decide +kernel
theorem dL_law_241 : decode cL_law 241 = .ok (.iload 4, 2) := by decide +kernel
theorem dL_law_243 : decode cL_law 243 = .ok (.iconst 1, 1) := by decide +kernel
theorem dL_law_244 : decode cL_law 244 = .ok (.iadd, 1) := by decide +kernel
theorem dL_law_245 : decode cL_law 245 = .ok (.iaload, 1) := by decide +kernel
theorem dL_law_246 : decode cL_law 246 = .ok (.invokevirtual 44, 3) := by decide +kernel
theorem dL_law_249 : decode cL_law 249 = .ok (.if_icmp .eq 182, 3) := by decide +kernel
theorem dL_law_252 : decode cL_law 252 = .ok (.iconst 0, 1) := by decide +kernel
theorem dL_law_253 : decode cL_law 253 = .ok (.ireturn, 1) := by decide +kernel
theorem dL_law_254 : decode cL_law 254 = .ok (.aload_n 1, 1) := by decide +kernel
theorem dL_law_255 : decode cL_law 255 = .ok (.aload_n 0, 1) := by decide +kernel
theorem dL_law_256 : decode cL_law 256 = .ok (.iload 4, 2) := by decide +kernel
theorem dL_law_258 : decode cL_law 258 = .ok (.iconst 1, 1) := by decide +kernel
theorem dL_law_259 : decode cL_law 259 = .ok (.iadd, 1) := by decide +kernel
theorem dL_law_260 : decode cL_law 260 = .ok (.iaload, 1) := by decide +kernel
theorem dL_law_261 : decode cL_law 261 = .ok (.aload_n 0, 1) := by decide +kernel
theorem dL_law_262 : decode cL_law 262 = .ok (.iload 4, 2) := by decide +kernel
theorem dL_law_264 : decode cL_law 264 = .ok (.iconst 2, 1) := by decide +kernel
theorem dL_law_265 : decode cL_law 265 = .ok (.iadd, 1) := by decide +kernel
theorem dL_law_266 : decode cL_law 266 = .ok (.iaload, 1) := by decide +kernel
theorem dL_law_267 : decode cL_law 267 = .ok (.invokevirtual 45, 3) := by decide +kernel
theorem dL_law_270 : decode cL_law 270 = .ok (.aload_n 2, 1) := by decide +kernel
theorem dL_law_271 : decode cL_law 271 = .ok (.aload_n 0, 1) := by decide +kernel
theorem dL_law_272 : decode cL_law 272 = .ok (.iload 4, 2) := by decide +kernel
theorem dL_law_274 : decode cL_law 274 = .ok (.iconst 1, 1) := by decide +kernel
theorem dL_law_275 : decode cL_law 275 = .ok (.iadd, 1) := by decide +kernel
theorem dL_law_276 : decode cL_law 276 = .ok (.iaload, 1) := by decide +kernel
theorem dL_law_277 : decode cL_law 277 = .ok (.aload_n 0, 1) := by decide +kernel
theorem dL_law_278 : decode cL_law 278 = .ok (.iload 4, 2) := by decide +kernel
theorem dL_law_280 : decode cL_law 280 = .ok (.iconst 2, 1) := by decide +kernel
theorem dL_law_281 : decode cL_law 281 = .ok (.iadd, 1) := by decide +kernel
theorem dL_law_282 : decode cL_law 282 = .ok (.iaload, 1) := by decide +kernel
theorem dL_law_283 : decode cL_law 283 = .ok (.invokevirtual 49, 3) := by decide +kernel
theorem dL_law_286 : decode cL_law 286 = .ok (.lcmp, 1) := by decide +kernel
theorem dL_law_287 : decode cL_law 287 = .ok (.ifCond .eq 144, 3) := by decide +kernel
theorem dL_law_290 : decode cL_law 290 = .ok (.iconst 0, 1) := by decide +kernel
theorem dL_law_291 : decode cL_law 291 = .ok (.ireturn, 1) := by decide +kernel
theorem dL_law_292 : decode cL_law 292 = .ok (.aload_n 1, 1) := by decide +kernel
theorem dL_law_293 : decode cL_law 293 = .ok (.aload_n 0, 1) := by decide +kernel
theorem dL_law_294 : decode cL_law 294 = .ok (.iload 4, 2) := by decide +kernel
theorem dL_law_296 : decode cL_law 296 = .ok (.iconst 1, 1) := by decide +kernel
theorem dL_law_297 : decode cL_law 297 = .ok (.iadd, 1) := by decide +kernel
theorem dL_law_298 : decode cL_law 298 = .ok (.iaload, 1) := by decide +kernel
theorem dL_law_299 : decode cL_law 299 = .ok (.invokevirtual 50, 3) := by decide +kernel
theorem dL_law_302 : decode cL_law 302 = .ok (.aload_n 2, 1) := by decide +kernel
theorem dL_law_303 : decode cL_law 303 = .ok (.aload_n 0, 1) := by decide +kernel
theorem dL_law_304 : decode cL_law 304 = .ok (.iload 4, 2) := by decide +kernel
theorem dL_law_306 : decode cL_law 306 = .ok (.iconst 1, 1) := by decide +kernel
theorem dL_law_307 : decode cL_law 307 = .ok (.iadd, 1) := by decide +kernel
theorem dL_law_308 : decode cL_law 308 = .ok (.iaload, 1) := by decide +kernel
theorem dL_law_309 : decode cL_law 309 = .ok (.invokevirtual 53, 3) := by decide +kernel
theorem dL_law_312 : decode cL_law 312 = .ok (.if_icmp .eq 119, 3) := by decide +kernel
theorem dL_law_315 : decode cL_law 315 = .ok (.iconst 0, 1) := by decide +kernel
theorem dL_law_316 : decode cL_law 316 = .ok (.ireturn, 1) := by decide +kernel
theorem dL_law_317 : decode cL_law 317 = .ok (.aload_n 1, 1) := by decide +kernel
theorem dL_law_318 : decode cL_law 318 = .ok (.aload_n 0, 1) := by decide +kernel
theorem dL_law_319 : decode cL_law 319 = .ok (.iload 4, 2) := by decide +kernel
theorem dL_law_321 : decode cL_law 321 = .ok (.iconst 1, 1) := by decide +kernel
theorem dL_law_322 : decode cL_law 322 = .ok (.iadd, 1) := by decide +kernel
theorem dL_law_323 : decode cL_law 323 = .ok (.iaload, 1) := by decide +kernel
theorem dL_law_324 : decode cL_law 324 = .ok (.aload_n 3, 1) := by decide +kernel
theorem dL_law_325 : decode cL_law 325 = .ok (.invokestatic 54, 3) := by decide +kernel
theorem dL_law_328 : decode cL_law 328 = .ok (.istore 5, 2) := by decide +kernel
theorem dL_law_330 : decode cL_law 330 = .ok (.aload_n 2, 1) := by decide +kernel
theorem dL_law_331 : decode cL_law 331 = .ok (.aload_n 0, 1) := by decide +kernel
theorem dL_law_332 : decode cL_law 332 = .ok (.iload 4, 2) := by decide +kernel
theorem dL_law_334 : decode cL_law 334 = .ok (.iconst 1, 1) := by decide +kernel
theorem dL_law_335 : decode cL_law 335 = .ok (.iadd, 1) := by decide +kernel
theorem dL_law_336 : decode cL_law 336 = .ok (.iaload, 1) := by decide +kernel
theorem dL_law_337 : decode cL_law 337 = .ok (.invokevirtual 59, 3) := by decide +kernel
theorem dL_law_340 : decode cL_law 340 = .ok (.istore 6, 2) := by decide +kernel
theorem dL_law_342 : decode cL_law 342 = .ok (.aload_n 2, 1) := by decide +kernel
theorem dL_law_343 : decode cL_law 343 = .ok (.invokevirtual 60, 3) := by decide +kernel
theorem dL_law_346 : decode cL_law 346 = .ok (.iload 5, 2) := by decide +kernel
theorem dL_law_348 : decode cL_law 348 = .ok (.if_icmp .eq 5, 3) := by decide +kernel
theorem dL_law_351 : decode cL_law 351 = .ok (.iconst 0, 1) := by decide +kernel
theorem dL_law_352 : decode cL_law 352 = .ok (.ireturn, 1) := by decide +kernel
theorem dL_law_353 : decode cL_law 353 = .ok (.iload 5, 2) := by decide +kernel
theorem dL_law_355 : decode cL_law 355 = .ok (.ifCond .ne 15, 3) := by decide +kernel
theorem dL_law_358 : decode cL_law 358 = .ok (.aload_n 3, 1) := by decide +kernel
theorem dL_law_359 : decode cL_law 359 = .ok (.iconst 0, 1) := by decide +kernel
theorem dL_law_360 : decode cL_law 360 = .ok (.laload, 1) := by decide +kernel
theorem dL_law_361 : decode cL_law 361 = .ok (.iload 6, 2) := by decide +kernel
theorem dL_law_363 : decode cL_law 363 = .ok (.i2l, 1) := by decide +kernel
theorem dL_law_364 : decode cL_law 364 = .ok (.lcmp, 1) := by decide +kernel
theorem dL_law_365 : decode cL_law 365 = .ok (.ifCond .eq 5, 3) := by decide +kernel
theorem dL_law_368 : decode cL_law 368 = .ok (.iconst 0, 1) := by decide +kernel
theorem dL_law_369 : decode cL_law 369 = .ok (.ireturn, 1) := by decide +kernel
theorem dL_law_370 : decode cL_law 370 = .ok (.goto 61, 3) := by decide +kernel
theorem dL_law_373 : decode cL_law 373 = .ok (.aload_n 1, 1) := by decide +kernel
theorem dL_law_374 : decode cL_law 374 = .ok (.aload_n 0, 1) := by decide +kernel
theorem dL_law_375 : decode cL_law 375 = .ok (.iload 4, 2) := by decide +kernel
theorem dL_law_377 : decode cL_law 377 = .ok (.iconst 1, 1) := by decide +kernel
theorem dL_law_378 : decode cL_law 378 = .ok (.iadd, 1) := by decide +kernel
theorem dL_law_379 : decode cL_law 379 = .ok (.iaload, 1) := by decide +kernel
theorem dL_law_380 : decode cL_law 380 = .ok (.i2l, 1) := by decide +kernel
theorem dL_law_381 : decode cL_law 381 = .ok (.bipush 32, 2) := by decide +kernel
theorem dL_law_383 : decode cL_law 383 = .ok (.lshl, 1) := by decide +kernel
theorem dL_law_384 : decode cL_law 384 = .ok (.aload_n 0, 1) := by decide +kernel
theorem dL_law_385 : decode cL_law 385 = .ok (.iload 4, 2) := by decide +kernel
theorem dL_law_387 : decode cL_law 387 = .ok (.iconst 2, 1) := by decide +kernel
theorem dL_law_388 : decode cL_law 388 = .ok (.iadd, 1) := by decide +kernel
theorem dL_law_389 : decode cL_law 389 = .ok (.iaload, 1) := by decide +kernel
theorem dL_law_390 : decode cL_law 390 = .ok (.i2l, 1) := by decide +kernel
theorem dL_law_391 : decode cL_law 391 = .ok (.ldc2_w 64, 3) := by decide +kernel
theorem dL_law_394 : decode cL_law 394 = .ok (.land, 1) := by decide +kernel
theorem dL_law_395 : decode cL_law 395 = .ok (.lor, 1) := by decide +kernel
theorem dL_law_396 : decode cL_law 396 = .ok (.invokevirtual 66, 3) := by decide +kernel
theorem dL_law_399 : decode cL_law 399 = .ok (.aload_n 2, 1) := by decide +kernel
theorem dL_law_400 : decode cL_law 400 = .ok (.aload_n 0, 1) := by decide +kernel
theorem dL_law_401 : decode cL_law 401 = .ok (.iload 4, 2) := by decide +kernel
theorem dL_law_403 : decode cL_law 403 = .ok (.iconst 1, 1) := by decide +kernel
theorem dL_law_404 : decode cL_law 404 = .ok (.iadd, 1) := by decide +kernel
theorem dL_law_405 : decode cL_law 405 = .ok (.iaload, 1) := by decide +kernel
theorem dL_law_406 : decode cL_law 406 = .ok (.i2l, 1) := by decide +kernel
theorem dL_law_407 : decode cL_law 407 = .ok (.bipush 32, 2) := by decide +kernel
theorem dL_law_409 : decode cL_law 409 = .ok (.lshl, 1) := by decide +kernel
theorem dL_law_410 : decode cL_law 410 = .ok (.aload_n 0, 1) := by decide +kernel
theorem dL_law_411 : decode cL_law 411 = .ok (.iload 4, 2) := by decide +kernel
theorem dL_law_413 : decode cL_law 413 = .ok (.iconst 2, 1) := by decide +kernel
theorem dL_law_414 : decode cL_law 414 = .ok (.iadd, 1) := by decide +kernel
theorem dL_law_415 : decode cL_law 415 = .ok (.iaload, 1) := by decide +kernel
theorem dL_law_416 : decode cL_law 416 = .ok (.i2l, 1) := by decide +kernel
theorem dL_law_417 : decode cL_law 417 = .ok (.ldc2_w 64, 3) := by decide +kernel
theorem dL_law_420 : decode cL_law 420 = .ok (.land, 1) := by decide +kernel
theorem dL_law_421 : decode cL_law 421 = .ok (.lor, 1) := by decide +kernel
theorem dL_law_422 : decode cL_law 422 = .ok (.invokevirtual 70, 3) := by decide +kernel
theorem dL_law_425 : decode cL_law 425 = .ok (.lcmp, 1) := by decide +kernel
theorem dL_law_426 : decode cL_law 426 = .ok (.ifCond .eq 5, 3) := by decide +kernel
theorem dL_law_429 : decode cL_law 429 = .ok (.iconst 0, 1) := by decide +kernel
theorem dL_law_430 : decode cL_law 430 = .ok (.ireturn, 1) := by decide +kernel
theorem dL_law_431 : decode cL_law 431 = .ok (.iinc 4 3, 3) := by decide +kernel
theorem dL_law_434 : decode cL_law 434 = .ok (.goto (-411), 3) := by decide +kernel
theorem dL_law_437 : decode cL_law 437 = .ok (.iconst 1, 1) := by decide +kernel
theorem dL_law_438 : decode cL_law 438 = .ok (.ireturn, 1) := by decide +kernel
end
section
abbrev wsB_init : List Cond := .code yB_init cB_init 1 none :: bwB
theorem gn_B_init : ∀ x ∈ wsB_init, x ∈ bwB := bw_gt_ hw_32 bw_gb
abbrev wsS_init : List Cond := .code yS_init cS_init 1 none :: bwB
theorem gn_S_init : ∀ x ∈ wsS_init, x ∈ bwB := bw_gt_ hw_40 bw_gb
abbrev wsR_init : List Cond := .code yR_init cR_init 1 none :: bwB
theorem gn_R_init : ∀ x ∈ wsR_init, x ∈ bwB := bw_gt_ hw_58 bw_gb
abbrev wsB_block : List Cond := .code yB_block cB_block 2 (some .boolean) :: bwB
theorem gn_B_block : ∀ x ∈ wsB_block, x ∈ bwB := bw_gt_ hw_89 bw_gb
abbrev wsB_isBlock : List Cond := .code yB_isBlock cB_isBlock 1 (some .boolean) :: bwB
theorem gn_B_isBlock : ∀ x ∈ wsB_isBlock, x ∈ bwB := bw_gt_ hw_92 bw_gb
abbrev wsB_has : List Cond := .code yB_has cB_has 3 (some .boolean) :: bwB
theorem gn_B_has : ∀ x ∈ wsB_has, x ∈ bwB := bw_gt_ hw_95 bw_gb
abbrev wsB_bit : List Cond := .code yB_bit cB_bit 1 (some .long) :: bwB
theorem gn_B_bit : ∀ x ∈ wsB_bit, x ∈ bwB := bw_gt_ hw_98 bw_gb
abbrev wsB_forgetAnswers : List Cond := .code yB_forgetAnswers cB_forgetAnswers 1 none :: bwB
theorem gn_B_forgetAnswers : ∀ x ∈ wsB_forgetAnswers, x ∈ bwB := bw_gt_ hw_102 bw_gb
abbrev wsB_target : List Cond := .code yB_target cB_target 3 (some .boolean) :: bwB
theorem gn_B_target : ∀ x ∈ wsB_target, x ∈ bwB := bw_gt_ hw_106 bw_gb
abbrev wsB_isTold : List Cond := .code yB_isTold cB_isTold 2 (some .boolean) :: bwB
theorem gn_B_isTold : ∀ x ∈ wsB_isTold, x ∈ bwB := bw_gt_ hw_110 bw_gb
abbrev wsS_addStep : List Cond := .code yS_addStep cS_addStep 3 none :: bwB
theorem gn_S_addStep : ∀ x ∈ wsS_addStep, x ∈ bwB := bw_gt_ hw_114 bw_gb
abbrev wsB_drop : List Cond := .code yB_drop cB_drop 2 (some .boolean) :: bwB
theorem gn_B_drop : ∀ x ∈ wsB_drop, x ∈ bwB := bw_gt_ hw_119 bw_gb
abbrev wsS_removeStepsFrom : List Cond := .code yS_removeStepsFrom cS_removeStepsFrom 2 none :: bwB
theorem gn_S_removeStepsFrom : ∀ x ∈ wsS_removeStepsFrom, x ∈ bwB := bw_gt_ hw_124 bw_gb
abbrev wsS_removeStepsTo : List Cond := .code yS_removeStepsTo cS_removeStepsTo 3 none :: bwB
theorem gn_S_removeStepsTo : ∀ x ∈ wsS_removeStepsTo, x ∈ bwB := bw_gt_ hw_128 bw_gb
abbrev wsB_count : List Cond := .code yB_count cB_count 2 (some .int) :: bwB
theorem gn_B_count : ∀ x ∈ wsB_count, x ∈ bwB := bw_gt_ hw_133 bw_gb
abbrev wsJ_bitCount : List Cond := .code yJ_bitCount cJ_bitCount 2 (some .int) :: bwB
theorem gn_J_bitCount : ∀ x ∈ wsJ_bitCount, x ∈ bwB := bw_gt_ hw_136 bw_gb
abbrev wsB_freshOnward : List Cond := .code yB_freshOnward cB_freshOnward 1 (some (.object "BlockWays$Spread")) :: bwB
theorem gn_B_freshOnward : ∀ x ∈ wsB_freshOnward, x ∈ bwB := bw_gt_ hw_143 bw_gb
abbrev wsB_renewOnward : List Cond := .code yB_renewOnward cB_renewOnward 1 none :: bwB
theorem gn_B_renewOnward : ∀ x ∈ wsB_renewOnward, x ∈ bwB := bw_gt_ hw_147 bw_gb
abbrev wsS_renew : List Cond := .code yS_renew cS_renew 6 none :: bwB
theorem gn_S_renew : ∀ x ∈ wsS_renew, x ∈ bwB := bw_gt_ hw_151 bw_gb
abbrev wsS_flood : List Cond := .code yS_flood cS_flood 13 (some .long) :: bwB
theorem gn_S_flood : ∀ x ∈ wsS_flood, x ∈ bwB := bw_gt_ hw_155 bw_gb
abbrev wsB_lowest : List Cond := .code yB_lowest cB_lowest 2 (some .int) :: bwB
theorem gn_B_lowest : ∀ x ∈ wsB_lowest, x ∈ bwB := bw_gt_ hw_158 bw_gb
abbrev wsR_renew : List Cond := .code yR_renew cR_renew 8 none :: bwB
theorem gn_R_renew : ∀ x ∈ wsR_renew, x ∈ bwB := bw_gt_ hw_163 bw_gb
abbrev wsS_stepsOf : List Cond := .code yS_stepsOf cS_stepsOf 2 (some .long) :: bwB
theorem gn_S_stepsOf : ∀ x ∈ wsS_stepsOf, x ∈ bwB := bw_gt_ hw_167 bw_gb
abbrev wsS_gated : List Cond := .code yS_gated cS_gated 2 (some .long) :: bwB
theorem gn_S_gated : ∀ x ∈ wsS_gated, x ∈ bwB := bw_gt_ hw_171 bw_gb
abbrev wsS_covered : List Cond := .code yS_covered cS_covered 1 (some .long) :: bwB
theorem gn_S_covered : ∀ x ∈ wsS_covered, x ∈ bwB := bw_gt_ hw_175 bw_gb
abbrev wsB_freshBackward : List Cond := .code yB_freshBackward cB_freshBackward 1 (some (.object "BlockWays$Spread")) :: bwB
theorem gn_B_freshBackward : ∀ x ∈ wsB_freshBackward, x ∈ bwB := bw_gt_ hw_183 bw_gb
abbrev wsB_ends : List Cond := .code yB_ends cB_ends 4 (some .long) :: bwB
theorem gn_B_ends : ∀ x ∈ wsB_ends, x ∈ bwB := bw_gt_ hw_187 bw_gb
abbrev wsB_freshRounds : List Cond := .code yB_freshRounds cB_freshRounds 1 (some (.object "BlockWays$Rounds")) :: bwB
theorem gn_B_freshRounds : ∀ x ∈ wsB_freshRounds, x ∈ bwB := bw_gt_ hw_191 bw_gb
abbrev wsR_number : List Cond := .code yR_number cR_number 3 (some .int) :: bwB
theorem gn_R_number : ∀ x ∈ wsR_number, x ∈ bwB := bw_gt_ hw_195 bw_gb
abbrev wsR_deepest : List Cond := .code yR_deepest cR_deepest 3 (some .int) :: bwB
theorem gn_R_deepest : ∀ x ∈ wsR_deepest, x ∈ bwB := bw_gt_ hw_199 bw_gb
abbrev wsR_numberAround : List Cond := .code yR_numberAround cR_numberAround 4 (some .int) :: bwB
theorem gn_R_numberAround : ∀ x ∈ wsR_numberAround, x ∈ bwB := bw_gt_ hw_203 bw_gb
abbrev wsB_isPlain : List Cond := .code yB_isPlain cB_isPlain 8 (some .boolean) :: bwB
theorem gn_B_isPlain : ∀ x ∈ wsB_isPlain, x ∈ bwB := bw_gt_ hw_211 bw_gb
abbrev wsB_lid : List Cond := .code yB_lid cB_lid 2 (some .int) :: bwB
theorem gn_B_lid : ∀ x ∈ wsB_lid, x ∈ bwB := bw_gt_ hw_217 bw_gb
abbrev wsS_nearestGate : List Cond := .code yS_nearestGate cS_nearestGate 7 (some .int) :: bwB
theorem gn_S_nearestGate : ∀ x ∈ wsS_nearestGate, x ∈ bwB := bw_gt_ hw_221 bw_gb
abbrev wsS_gates : List Cond := .code yS_gates cS_gates 5 (some .long) :: bwB
theorem gn_S_gates : ∀ x ∈ wsS_gates, x ∈ bwB := bw_gt_ hw_225 bw_gb
abbrev wsB_meeting : List Cond := .code yB_meeting cB_meeting 2 (some .int) :: bwB
theorem gn_B_meeting : ∀ x ∈ wsB_meeting, x ∈ bwB := bw_gt_ hw_229 bw_gb
abbrev wsB_set : List Cond := .code yB_set cB_set 3 (some .long) :: bwB
theorem gn_B_set : ∀ x ∈ wsB_set, x ∈ bwB := bw_gt_ hw_233 bw_gb
abbrev wsR_blocksOf : List Cond := .code yR_blocksOf cR_blocksOf 2 (some .long) :: bwB
theorem gn_R_blocksOf : ∀ x ∈ wsR_blocksOf, x ∈ bwB := bw_gt_ hw_238 bw_gb
abbrev wsS_rim : List Cond := .code yS_rim cS_rim 5 (some .long) :: bwB
theorem gn_S_rim : ∀ x ∈ wsS_rim, x ∈ bwB := bw_gt_ hw_242 bw_gb
abbrev wsB_depth : List Cond := .code yB_depth cB_depth 2 (some .int) :: bwB
theorem gn_B_depth : ∀ x ∈ wsB_depth, x ∈ bwB := bw_gt_ hw_246 bw_gb
abbrev wsB_joins : List Cond := .code yB_joins cB_joins 14 (some .long) :: bwB
theorem gn_B_joins : ∀ x ∈ wsB_joins, x ∈ bwB := bw_gt_ hw_251 bw_gb
abbrev wsB_inner : List Cond := .code yB_inner cB_inner 3 (some .int) :: bwB
theorem gn_B_inner : ∀ x ∈ wsB_inner, x ∈ bwB := bw_gt_ hw_260 bw_gb
abbrev wsR_smallestAround : List Cond := .code yR_smallestAround cR_smallestAround 6 (some .int) :: bwB
theorem gn_R_smallestAround : ∀ x ∈ wsR_smallestAround, x ∈ bwB := bw_gt_ hw_264 bw_gb
abbrev wsM_init : List Cond := .code yM_init cM_init 1 none :: bwB
theorem gn_M_init : ∀ x ∈ wsM_init, x ∈ bwB := bw_gt_ hw_336 bw_gb
abbrev wsM_thrown : List Cond := .code yM_thrown cM_thrown 1 (some .int) :: bwB
theorem gn_M_thrown : ∀ x ∈ wsM_thrown, x ∈ bwB := bw_gt_ hw_387 bw_gb
abbrev wsM_block : List Cond := .code yM_block cM_block 2 (some .boolean) :: bwB
theorem gn_M_block : ∀ x ∈ wsM_block, x ∈ bwB := bw_gt_ hw_391 bw_gb
abbrev wsM_isBlock : List Cond := .code yM_isBlock cM_isBlock 1 (some .boolean) :: bwB
theorem gn_M_isBlock : ∀ x ∈ wsM_isBlock, x ∈ bwB := bw_gt_ hw_394 bw_gb
abbrev wsM_is : List Cond := .code yM_is cM_is 3 (some .boolean) :: bwB
theorem gn_M_is : ∀ x ∈ wsM_is, x ∈ bwB := bw_gt_ hw_397 bw_gb
abbrev wsM_bit : List Cond := .code yM_bit cM_bit 1 (some .long) :: bwB
theorem gn_M_bit : ∀ x ∈ wsM_bit, x ∈ bwB := bw_gt_ hw_400 bw_gb
abbrev wsM_target : List Cond := .code yM_target cM_target 3 (some .boolean) :: bwB
theorem gn_M_target : ∀ x ∈ wsM_target, x ∈ bwB := bw_gt_ hw_404 bw_gb
abbrev wsM_drop : List Cond := .code yM_drop cM_drop 2 (some .boolean) :: bwB
theorem gn_M_drop : ∀ x ∈ wsM_drop, x ∈ bwB := bw_gt_ hw_408 bw_gb
abbrev wsM_count : List Cond := .code yM_count cM_count 4 (some .int) :: bwB
theorem gn_M_count : ∀ x ∈ wsM_count, x ∈ bwB := bw_gt_ hw_413 bw_gb
abbrev wsM_look : List Cond := .code yM_look cM_look 7 none :: bwB
theorem gn_M_look : ∀ x ∈ wsM_look, x ∈ bwB := bw_gt_ hw_417 bw_gb
abbrev wsM_comeTo : List Cond := .code yM_comeTo cM_comeTo 8 (some .long) :: bwB
theorem gn_M_comeTo : ∀ x ∈ wsM_comeTo, x ∈ bwB := bw_gt_ hw_421 bw_gb
abbrev wsM_leadTo : List Cond := .code yM_leadTo cM_leadTo 12 (some .long) :: bwB
theorem gn_M_leadTo : ∀ x ∈ wsM_leadTo, x ∈ bwB := bw_gt_ hw_425 bw_gb
abbrev wsM_lookAtRounds : List Cond := .code yM_lookAtRounds cM_lookAtRounds 5 none :: bwB
theorem gn_M_lookAtRounds : ∀ x ∈ wsM_lookAtRounds, x ∈ bwB := bw_gt_ hw_429 bw_gb
abbrev wsM_lookAtEdges : List Cond := .code yM_lookAtEdges cM_lookAtEdges 4 none :: bwB
theorem gn_M_lookAtEdges : ∀ x ∈ wsM_lookAtEdges, x ∈ bwB := bw_gt_ hw_433 bw_gb
abbrev wsM_sizeOf : List Cond := .code yM_sizeOf cM_sizeOf 4 (some .int) :: bwB
theorem gn_M_sizeOf : ∀ x ∈ wsM_sizeOf, x ∈ bwB := bw_gt_ hw_436 bw_gb
abbrev wsM_in : List Cond := .code yM_in cM_in 4 (some .int) :: bwB
theorem gn_M_in : ∀ x ∈ wsM_in, x ∈ bwB := bw_gt_ hw_440 bw_gb
abbrev wsM_lid : List Cond := .code yM_lid cM_lid 2 (some .int) :: bwB
theorem gn_M_lid : ∀ x ∈ wsM_lid, x ∈ bwB := bw_gt_ hw_444 bw_gb
abbrev wsM_nearest : List Cond := .code yM_nearest cM_nearest 5 (some .int) :: bwB
theorem gn_M_nearest : ∀ x ∈ wsM_nearest, x ∈ bwB := bw_gt_ hw_447 bw_gb
abbrev wsM_meeting : List Cond := .code yM_meeting cM_meeting 2 (some .int) :: bwB
theorem gn_M_meeting : ∀ x ∈ wsM_meeting, x ∈ bwB := bw_gt_ hw_451 bw_gb
abbrev wsM_set : List Cond := .code yM_set cM_set 3 (some .long) :: bwB
theorem gn_M_set : ∀ x ∈ wsM_set, x ∈ bwB := bw_gt_ hw_455 bw_gb
abbrev wsM_hangsOn : List Cond := .code yM_hangsOn cM_hangsOn 6 (some .long) :: bwB
theorem gn_M_hangsOn : ∀ x ∈ wsM_hangsOn, x ∈ bwB := bw_gt_ hw_459 bw_gb
abbrev wsM_under : List Cond := .code yM_under cM_under 5 (some .long) :: bwB
theorem gn_M_under : ∀ x ∈ wsM_under, x ∈ bwB := bw_gt_ hw_463 bw_gb
abbrev wsM_depth : List Cond := .code yM_depth cM_depth 2 (some .int) :: bwB
theorem gn_M_depth : ∀ x ∈ wsM_depth, x ∈ bwB := bw_gt_ hw_467 bw_gb
abbrev wsM_inner : List Cond := .code yM_inner cM_inner 4 (some .int) :: bwB
theorem gn_M_inner : ∀ x ∈ wsM_inner, x ∈ bwB := bw_gt_ hw_471 bw_gb
abbrev wsM_joins : List Cond := .code yM_joins cM_joins 9 (some .long) :: bwB
theorem gn_M_joins : ∀ x ∈ wsM_joins, x ∈ bwB := bw_gt_ hw_475 bw_gb
theorem g_L_19 : GoodIn bwB (wsV RL 19 RB yB_block wsB_block) := bw_gi (bw_gt_ hw_86 (bw_gt_ hw_87 (bw_gt_ hw_88 (bw_gt_ hw_18 gn_B_block))))
theorem g_B_41 : GoodIn bwB (wsS RB 41 yB_isBlock wsB_isBlock) := bw_gi (bw_gt_ hw_90 (bw_gt_ hw_91 (bw_gt_ hw_18 gn_B_isBlock)))
theorem g_B_45 : GoodIn bwB (wsS RB 45 yB_has wsB_has) := bw_gi (bw_gt_ hw_93 (bw_gt_ hw_94 (bw_gt_ hw_18 gn_B_has)))
theorem g_B_49 : GoodIn bwB (wsS RB 49 yB_bit wsB_bit) := bw_gi (bw_gt_ hw_96 (bw_gt_ hw_97 (bw_gt_ hw_18 gn_B_bit)))
theorem g_B_53 : GoodIn bwB (wsV RB 53 RB yB_forgetAnswers wsB_forgetAnswers) := bw_gi (bw_gt_ hw_99 (bw_gt_ hw_101 (bw_gt_ hw_0 (bw_gt_ hw_18 gn_B_forgetAnswers))))
theorem g_L_24 : GoodIn bwB (wsV RL 24 RB yB_target wsB_target) := bw_gi (bw_gt_ hw_103 (bw_gt_ hw_104 (bw_gt_ hw_105 (bw_gt_ hw_18 gn_B_target))))
theorem g_B_56 : GoodIn bwB (wsV RB 56 RB yB_isTold wsB_isTold) := bw_gi (bw_gt_ hw_107 (bw_gt_ hw_109 (bw_gt_ hw_1 (bw_gt_ hw_18 gn_B_isTold))))
theorem g_B_59 : GoodIn bwB (wsV RB 59 RS yS_addStep wsS_addStep) := bw_gi (bw_gt_ hw_111 (bw_gt_ hw_112 (bw_gt_ hw_113 (bw_gt_ hw_19 gn_S_addStep))))
theorem g_L_29 : GoodIn bwB (wsV RL 29 RB yB_drop wsB_drop) := bw_gi (bw_gt_ hw_116 (bw_gt_ hw_117 (bw_gt_ hw_118 (bw_gt_ hw_18 gn_B_drop))))
theorem g_B_65 : GoodIn bwB (wsV RB 65 RS yS_removeStepsFrom wsS_removeStepsFrom) := bw_gi (bw_gt_ hw_121 (bw_gt_ hw_122 (bw_gt_ hw_123 (bw_gt_ hw_19 gn_S_removeStepsFrom))))
theorem g_B_69 : GoodIn bwB (wsV RB 69 RS yS_removeStepsTo wsS_removeStepsTo) := bw_gi (bw_gt_ hw_125 (bw_gt_ hw_126 (bw_gt_ hw_127 (bw_gt_ hw_19 gn_S_removeStepsTo))))
theorem g_L_33 : GoodIn bwB (wsV RL 33 RB yB_count wsB_count) := bw_gi (bw_gt_ hw_130 (bw_gt_ hw_131 (bw_gt_ hw_132 (bw_gt_ hw_18 gn_B_count))))
theorem g_B_72 : GoodIn bwB (va_wsS RB 72 yJ_bitCount wsJ_bitCount) := bw_gi (bw_gt_ hw_134 (bw_gt_ hw_135 (bw_gt_ hw_22 gn_J_bitCount)))
theorem g_B_78 : GoodIn bwB (wsV RB 78 RB yB_freshOnward wsB_freshOnward) := bw_gi (bw_gt_ hw_140 (bw_gt_ hw_142 (bw_gt_ hw_2 (bw_gt_ hw_18 gn_B_freshOnward))))
theorem g_B_136 : GoodIn bwB (wsV RB 136 RB yB_renewOnward wsB_renewOnward) := bw_gi (bw_gt_ hw_144 (bw_gt_ hw_146 (bw_gt_ hw_3 (bw_gt_ hw_18 gn_B_renewOnward))))
theorem g_B_139 : GoodIn bwB (wsV RB 139 RS yS_renew wsS_renew) := bw_gi (bw_gt_ hw_148 (bw_gt_ hw_149 (bw_gt_ hw_150 (bw_gt_ hw_19 gn_S_renew))))
theorem g_S_28 : GoodIn bwB (wsV RS 28 RS yS_flood wsS_flood) := bw_gi (bw_gt_ hw_152 (bw_gt_ hw_153 (bw_gt_ hw_154 (bw_gt_ hw_19 gn_S_flood))))
theorem g_B_143 : GoodIn bwB (wsV RB 143 RR yR_renew wsR_renew) := bw_gi (bw_gt_ hw_160 (bw_gt_ hw_161 (bw_gt_ hw_162 (bw_gt_ hw_20 gn_R_renew))))
theorem g_R_15 : GoodIn bwB (wsV RR 15 RS yS_stepsOf wsS_stepsOf) := bw_gi (bw_gt_ hw_164 (bw_gt_ hw_165 (bw_gt_ hw_166 (bw_gt_ hw_19 gn_S_stepsOf))))
theorem g_R_21 : GoodIn bwB (wsV RR 21 RS yS_gated wsS_gated) := bw_gi (bw_gt_ hw_168 (bw_gt_ hw_169 (bw_gt_ hw_170 (bw_gt_ hw_19 gn_S_gated))))
theorem g_R_24 : GoodIn bwB (wsV RR 24 RS yS_covered wsS_covered) := bw_gi (bw_gt_ hw_172 (bw_gt_ hw_173 (bw_gt_ hw_174 (bw_gt_ hw_19 gn_S_covered))))
theorem g_R_33 : GoodIn bwB (wsV RR 33 RS yS_flood wsS_flood) := bw_gi (bw_gt_ hw_178 (bw_gt_ hw_153 (bw_gt_ hw_154 (bw_gt_ hw_19 gn_S_flood))))
theorem g_B_82 : GoodIn bwB (wsV RB 82 RS yS_covered wsS_covered) := bw_gi (bw_gt_ hw_179 (bw_gt_ hw_173 (bw_gt_ hw_174 (bw_gt_ hw_19 gn_S_covered))))
theorem g_B_86 : GoodIn bwB (wsV RB 86 RB yB_freshBackward wsB_freshBackward) := bw_gi (bw_gt_ hw_180 (bw_gt_ hw_182 (bw_gt_ hw_4 (bw_gt_ hw_18 gn_B_freshBackward))))
theorem g_B_146 : GoodIn bwB (wsV RB 146 RB yB_ends wsB_ends) := bw_gi (bw_gt_ hw_184 (bw_gt_ hw_186 (bw_gt_ hw_5 (bw_gt_ hw_18 gn_B_ends))))
theorem g_B_89 : GoodIn bwB (wsV RB 89 RB yB_freshRounds wsB_freshRounds) := bw_gi (bw_gt_ hw_188 (bw_gt_ hw_190 (bw_gt_ hw_6 (bw_gt_ hw_18 gn_B_freshRounds))))
theorem g_B_93 : GoodIn bwB (wsV RB 93 RR yR_number wsR_number) := bw_gi (bw_gt_ hw_192 (bw_gt_ hw_193 (bw_gt_ hw_194 (bw_gt_ hw_20 gn_R_number))))
theorem g_B_97 : GoodIn bwB (wsV RB 97 RR yR_deepest wsR_deepest) := bw_gi (bw_gt_ hw_196 (bw_gt_ hw_197 (bw_gt_ hw_198 (bw_gt_ hw_20 gn_R_deepest))))
theorem g_R_41 : GoodIn bwB (wsV RR 41 RR yR_numberAround wsR_numberAround) := bw_gi (bw_gt_ hw_200 (bw_gt_ hw_201 (bw_gt_ hw_202 (bw_gt_ hw_20 gn_R_numberAround))))
theorem g_B_100 : GoodIn bwB (wsV RB 100 RB yB_isPlain wsB_isPlain) := bw_gi (bw_gt_ hw_208 (bw_gt_ hw_210 (bw_gt_ hw_7 (bw_gt_ hw_18 gn_B_isPlain))))
theorem g_B_149 : GoodIn bwB (wsV RB 149 RS yS_stepsOf wsS_stepsOf) := bw_gi (bw_gt_ hw_212 (bw_gt_ hw_165 (bw_gt_ hw_166 (bw_gt_ hw_19 gn_S_stepsOf))))
theorem g_B_117 : GoodIn bwB (wsV RB 117 RS yS_gated wsS_gated) := bw_gi (bw_gt_ hw_213 (bw_gt_ hw_169 (bw_gt_ hw_170 (bw_gt_ hw_19 gn_S_gated))))
theorem g_L_37 : GoodIn bwB (wsV RL 37 RB yB_lid wsB_lid) := bw_gi (bw_gt_ hw_214 (bw_gt_ hw_215 (bw_gt_ hw_216 (bw_gt_ hw_18 gn_B_lid))))
theorem g_B_104 : GoodIn bwB (wsV RB 104 RS yS_nearestGate wsS_nearestGate) := bw_gi (bw_gt_ hw_218 (bw_gt_ hw_219 (bw_gt_ hw_220 (bw_gt_ hw_19 gn_S_nearestGate))))
theorem g_S_40 : GoodIn bwB (wsV RS 40 RS yS_gates wsS_gates) := bw_gi (bw_gt_ hw_222 (bw_gt_ hw_223 (bw_gt_ hw_224 (bw_gt_ hw_19 gn_S_gates))))
theorem g_L_41 : GoodIn bwB (wsV RL 41 RB yB_meeting wsB_meeting) := bw_gi (bw_gt_ hw_226 (bw_gt_ hw_227 (bw_gt_ hw_228 (bw_gt_ hw_18 gn_B_meeting))))
theorem g_L_45 : GoodIn bwB (wsV RL 45 RB yB_set wsB_set) := bw_gi (bw_gt_ hw_230 (bw_gt_ hw_231 (bw_gt_ hw_232 (bw_gt_ hw_18 gn_B_set))))
theorem g_B_108 : GoodIn bwB (wsV RB 108 RS yS_gates wsS_gates) := bw_gi (bw_gt_ hw_234 (bw_gt_ hw_223 (bw_gt_ hw_224 (bw_gt_ hw_19 gn_S_gates))))
theorem g_B_111 : GoodIn bwB (wsV RB 111 RR yR_blocksOf wsR_blocksOf) := bw_gi (bw_gt_ hw_235 (bw_gt_ hw_236 (bw_gt_ hw_237 (bw_gt_ hw_20 gn_R_blocksOf))))
theorem g_B_114 : GoodIn bwB (wsV RB 114 RS yS_rim wsS_rim) := bw_gi (bw_gt_ hw_239 (bw_gt_ hw_240 (bw_gt_ hw_241 (bw_gt_ hw_19 gn_S_rim))))
theorem g_L_50 : GoodIn bwB (wsV RL 50 RB yB_depth wsB_depth) := bw_gi (bw_gt_ hw_243 (bw_gt_ hw_244 (bw_gt_ hw_245 (bw_gt_ hw_18 gn_B_depth))))
theorem g_B_120 : GoodIn bwB (wsV RB 120 RR yR_numberAround wsR_numberAround) := bw_gi (bw_gt_ hw_247 (bw_gt_ hw_201 (bw_gt_ hw_202 (bw_gt_ hw_20 gn_R_numberAround))))
theorem g_L_66 : GoodIn bwB (wsV RL 66 RB yB_joins wsB_joins) := bw_gi (bw_gt_ hw_248 (bw_gt_ hw_249 (bw_gt_ hw_250 (bw_gt_ hw_18 gn_B_joins))))
theorem g_B_133 : GoodIn bwB (wsS RB 133 yB_lowest wsB_lowest) := bw_gi (bw_gt_ hw_252 (bw_gt_ hw_157 (bw_gt_ hw_18 gn_B_lowest)))
theorem g_L_7 : GoodIn bwB (wsV RL 7 RB yB_inner wsB_inner) := bw_gi (bw_gt_ hw_257 (bw_gt_ hw_258 (bw_gt_ hw_259 (bw_gt_ hw_18 gn_B_inner))))
theorem g_B_123 : GoodIn bwB (wsV RB 123 RR yR_smallestAround wsR_smallestAround) := bw_gi (bw_gt_ hw_261 (bw_gt_ hw_262 (bw_gt_ hw_263 (bw_gt_ hw_20 gn_R_smallestAround))))
theorem g_R_51 : GoodIn bwB (va_wsS RR 51 yJ_bitCount wsJ_bitCount) := bw_gi (bw_gt_ hw_265 (bw_gt_ hw_135 (bw_gt_ hw_22 gn_J_bitCount)))
theorem g_L_60 : GoodIn bwB (wsV RL 60 RM yM_thrown wsM_thrown) := bw_gi (bw_gt_ hw_384 (bw_gt_ hw_385 (bw_gt_ hw_386 (bw_gt_ hw_21 gn_M_thrown))))
theorem g_L_23 : GoodIn bwB (wsV RL 23 RM yM_block wsM_block) := bw_gi (bw_gt_ hw_388 (bw_gt_ hw_389 (bw_gt_ hw_390 (bw_gt_ hw_21 gn_M_block))))
theorem g_M_40 : GoodIn bwB (wsS RM 40 yM_isBlock wsM_isBlock) := bw_gi (bw_gt_ hw_392 (bw_gt_ hw_393 (bw_gt_ hw_21 gn_M_isBlock)))
theorem g_M_36 : GoodIn bwB (wsS RM 36 yM_is wsM_is) := bw_gi (bw_gt_ hw_395 (bw_gt_ hw_396 (bw_gt_ hw_21 gn_M_is)))
theorem g_M_48 : GoodIn bwB (wsS RM 48 yM_bit wsM_bit) := bw_gi (bw_gt_ hw_398 (bw_gt_ hw_399 (bw_gt_ hw_21 gn_M_bit)))
theorem g_L_28 : GoodIn bwB (wsV RL 28 RM yM_target wsM_target) := bw_gi (bw_gt_ hw_401 (bw_gt_ hw_402 (bw_gt_ hw_403 (bw_gt_ hw_21 gn_M_target))))
theorem g_L_32 : GoodIn bwB (wsV RL 32 RM yM_drop wsM_drop) := bw_gi (bw_gt_ hw_405 (bw_gt_ hw_406 (bw_gt_ hw_407 (bw_gt_ hw_21 gn_M_drop))))
theorem g_L_36 : GoodIn bwB (wsV RL 36 RM yM_count wsM_count) := bw_gi (bw_gt_ hw_410 (bw_gt_ hw_411 (bw_gt_ hw_412 (bw_gt_ hw_21 gn_M_count))))
theorem g_M_86 : GoodIn bwB (wsV RM 86 RM yM_look wsM_look) := bw_gi (bw_gt_ hw_414 (bw_gt_ hw_416 (bw_gt_ hw_9 (bw_gt_ hw_21 gn_M_look))))
theorem g_M_61 : GoodIn bwB (wsV RM 61 RM yM_comeTo wsM_comeTo) := bw_gi (bw_gt_ hw_418 (bw_gt_ hw_420 (bw_gt_ hw_10 (bw_gt_ hw_21 gn_M_comeTo))))
theorem g_M_67 : GoodIn bwB (wsV RM 67 RM yM_leadTo wsM_leadTo) := bw_gi (bw_gt_ hw_422 (bw_gt_ hw_424 (bw_gt_ hw_11 (bw_gt_ hw_21 gn_M_leadTo))))
theorem g_M_74 : GoodIn bwB (wsV RM 74 RM yM_lookAtRounds wsM_lookAtRounds) := bw_gi (bw_gt_ hw_426 (bw_gt_ hw_428 (bw_gt_ hw_12 (bw_gt_ hw_21 gn_M_lookAtRounds))))
theorem g_M_77 : GoodIn bwB (wsV RM 77 RM yM_lookAtEdges wsM_lookAtEdges) := bw_gi (bw_gt_ hw_430 (bw_gt_ hw_432 (bw_gt_ hw_13 (bw_gt_ hw_21 gn_M_lookAtEdges))))
theorem g_M_89 : GoodIn bwB (wsS RM 89 yM_sizeOf wsM_sizeOf) := bw_gi (bw_gt_ hw_434 (bw_gt_ hw_435 (bw_gt_ hw_21 gn_M_sizeOf)))
theorem g_M_93 : GoodIn bwB (wsV RM 93 RM yM_in wsM_in) := bw_gi (bw_gt_ hw_437 (bw_gt_ hw_439 (bw_gt_ hw_14 (bw_gt_ hw_21 gn_M_in))))
theorem g_L_40 : GoodIn bwB (wsV RL 40 RM yM_lid wsM_lid) := bw_gi (bw_gt_ hw_441 (bw_gt_ hw_442 (bw_gt_ hw_443 (bw_gt_ hw_21 gn_M_lid))))
theorem g_M_97 : GoodIn bwB (wsS RM 97 yM_nearest wsM_nearest) := bw_gi (bw_gt_ hw_445 (bw_gt_ hw_446 (bw_gt_ hw_21 gn_M_nearest)))
theorem g_L_44 : GoodIn bwB (wsV RL 44 RM yM_meeting wsM_meeting) := bw_gi (bw_gt_ hw_448 (bw_gt_ hw_449 (bw_gt_ hw_450 (bw_gt_ hw_21 gn_M_meeting))))
theorem g_L_49 : GoodIn bwB (wsV RL 49 RM yM_set wsM_set) := bw_gi (bw_gt_ hw_452 (bw_gt_ hw_453 (bw_gt_ hw_454 (bw_gt_ hw_21 gn_M_set))))
theorem g_M_101 : GoodIn bwB (wsV RM 101 RM yM_hangsOn wsM_hangsOn) := bw_gi (bw_gt_ hw_456 (bw_gt_ hw_458 (bw_gt_ hw_15 (bw_gt_ hw_21 gn_M_hangsOn))))
theorem g_M_104 : GoodIn bwB (wsV RM 104 RM yM_under wsM_under) := bw_gi (bw_gt_ hw_460 (bw_gt_ hw_462 (bw_gt_ hw_16 (bw_gt_ hw_21 gn_M_under))))
theorem g_L_53 : GoodIn bwB (wsV RL 53 RM yM_depth wsM_depth) := bw_gi (bw_gt_ hw_464 (bw_gt_ hw_465 (bw_gt_ hw_466 (bw_gt_ hw_21 gn_M_depth))))
theorem g_L_59 : GoodIn bwB (wsV RL 59 RM yM_inner wsM_inner) := bw_gi (bw_gt_ hw_468 (bw_gt_ hw_469 (bw_gt_ hw_470 (bw_gt_ hw_21 gn_M_inner))))
theorem g_L_70 : GoodIn bwB (wsV RL 70 RM yM_joins wsM_joins) := bw_gi (bw_gt_ hw_472 (bw_gt_ hw_473 (bw_gt_ hw_474 (bw_gt_ hw_21 gn_M_joins))))
end
section
/-! helpers of the walks -/
section BWH
variable {p : Program} {l : Launch} {e : Env} {R : Room} {s : State} {m : MethodId} {args : Array Value} {below : List Frame} {meth : Method} {c : Code} {H : Heap} {locs : List Loc} {cells slots : Nat} {Q : State → Prop}
variable {cc : ByteArray} {pc : Nat} {ls : Array Slot} {rest : List Value} {D : va_G} {cl : List vw_C} {A : Nat → Prop} {a : Nat} {tys : List (ClassId × FieldType)} {ws : va_W} {H0 : Heap}
theorem bw_C {mc ms : Nat} {g : JFrame} {Qa : State → Outcome → State → Prop} {free : Addr → Prop} (h : va_Run p l e R s m args below meth c H locs cells slots mc ms g rest Qa free) : CallRun p l e R s m args below meth c H locs cells slots mc ms g rest Qa free := fun T hT X => by
  obtain ⟨v, st₀, t, T', L, h0, X', hL, e1, e2, hq, st⟩ := h T hT X
  exact ⟨v, st₀, t, T', L, h0, X', hL, e1, hq, st⟩
theorem bw_lald (hexec : p.tables.exec = Jvm.exec) (hb : c.code = cc) (hK : va_K D cl tys s) (hP : va_P D cl ws H) (q0 t0 : Nat) {k : Nat} {cA : ClassId} {n : Nat} {f : Nat → Int64} (ha : ws[q0]? = some (a, .inl (cA, n, .inr (.inl f)))) (ht : tys[t0]? = some (cA, .long)) (hk : k < n) (hn : n < 2 ^ 31) (hdg : decode cc pc = .ok (.laload, 1))
    (kk : W p l e R s m args below meth c H locs cells slots Q (F0 m (pc + 1) ls (.long (f k) :: rest))) : W p l e R s m args below meth c H locs cells slots Q (F0 m pc ls (.int (nI k) :: .ref a :: rest)) :=
  va_lald hexec hb hK hP q0 t0 ha ht (vp_in_nI hk hn) hdg (by rw [nI_clamp (by omega)]; exact kk)
theorem bw_iald (hexec : p.tables.exec = Jvm.exec) (hb : c.code = cc) (hK : va_K D cl tys s) (hP : va_P D cl ws H) (q0 t0 : Nat) {k : Nat} {cA : ClassId} {n : Nat} {f : Nat → Int32} (ha : ws[q0]? = some (a, .inl (cA, n, .inl f))) (ht : tys[t0]? = some (cA, .int)) (hk : k < n) (hn : n < 2 ^ 31) (hdg : decode cc pc = .ok (.iaload, 1))
    (kk : W p l e R s m args below meth c H locs cells slots Q (F0 m (pc + 1) ls (.int (f k) :: rest))) : W p l e R s m args below meth c H locs cells slots Q (F0 m pc ls (.int (nI k) :: .ref a :: rest)) :=
  va_iald hexec hb hK hP q0 t0 ha ht (vp_in_nI hk hn) hdg (by rw [nI_clamp (by omega)]; exact kk)
theorem bw_last (hexec : p.tables.exec = Jvm.exec) (hb : c.code = cc) (hK : va_K D cl tys s) (hP : va_P D cl ws H) (hD : va_D A ws) (hS : va_S A H0 H locs) (q0 t0 : Nat) {k : Nat} {cA : ClassId} {n : Nat} {f : Nat → Int64} (ha : ws[q0]? = some (a, .inl (cA, n, .inr (.inl f)))) (ht : tys[t0]? = some (cA, .long)) {x : Int64} (hk : k < n) (hn : n < 2 ^ 31) (hdg : decode cc pc = .ok (.lastore, 1))
    (kk : ∀ (H1 : Heap) (locs1 : List Loc), va_P D cl (ws.set q0 (a, .inl (cA, n, .inr (.inl (vp_updL f k x))))) H1 → va_D A (ws.set q0 (a, .inl (cA, n, .inr (.inl (vp_updL f k x))))) → va_S A H0 H1 locs1 → W p l e R s m args below meth c H1 locs1 cells slots Q (F0 m (pc + 1) ls rest)) : W p l e R s m args below meth c H locs cells slots Q (F0 m pc ls (.long x :: .int (nI k) :: .ref a :: rest)) :=
  va_last hexec hb hK hP hD hS q0 t0 ha ht (vp_in_nI hk hn) hdg (by rw [nI_clamp (by omega)]; exact kk)
theorem bw_iast (hexec : p.tables.exec = Jvm.exec) (hb : c.code = cc) (hK : va_K D cl tys s) (hP : va_P D cl ws H) (hD : va_D A ws) (hS : va_S A H0 H locs) (q0 t0 : Nat) {k : Nat} {cA : ClassId} {n : Nat} {f : Nat → Int32} (ha : ws[q0]? = some (a, .inl (cA, n, .inl f))) (ht : tys[t0]? = some (cA, .int)) {x : Int32} (hk : k < n) (hn : n < 2 ^ 31) (hdg : decode cc pc = .ok (.iastore, 1))
    (kk : ∀ (H1 : Heap) (locs1 : List Loc), va_P D cl (ws.set q0 (a, .inl (cA, n, .inl (upd f k x)))) H1 → va_D A (ws.set q0 (a, .inl (cA, n, .inl (upd f k x)))) → va_S A H0 H1 locs1 → W p l e R s m args below meth c H1 locs1 cells slots Q (F0 m (pc + 1) ls rest)) : W p l e R s m args below meth c H locs cells slots Q (F0 m pc ls (.int x :: .int (nI k) :: .ref a :: rest)) :=
  va_iast hexec hb hK hP hD hS q0 t0 ha ht (vp_in_nI hk hn) hdg (by rw [nI_clamp (by omega)]; exact kk)
end BWH
theorem bw_nb (c : Bool) : narrow .boolean (.int (bw_i c)) = .int (bw_i c) := by cases c <;> rfl
/-! what a read-only method starts with -/
section BWP
variable {s : State} {H : Heap} {D : va_G} {tys : List (ClassId × FieldType)} {ws : va_W} {As : List Value}
def bw_nx (U : State) : Prop := va_Nw (.methodLinkNest RS 22 yB_bit RB) U ∧ va_Nw (.methodLinkNest RS 36 yB_lowest RB) U ∧ va_Nw (.methodLinkNest RS 32 yB_has RB) U ∧ va_Nw (.methodLinkNest RR 28 yB_bit RB) U ∧ va_Nw (.methodLinkNest RR 37 yB_has RB) U
theorem bw_nx.warm {s U : State} (hW : s.WarmedH U.vm) (h : bw_nx s) : bw_nx U := ⟨va_Nw.warmM hW h.1, va_Nw.warmM hW h.2.1, va_Nw.warmM hW h.2.2.1, va_Nw.warmM hW h.2.2.2.1, va_Nw.warmM hW h.2.2.2.2⟩
theorem bw_nx.call {U : State} {g : JFrame} {mk : MethodId} {a : Array Value} (h : bw_nx U) : bw_nx (U.calling g mk a) := ⟨va_Nw.same rfl rfl h.1, va_Nw.same rfl rfl h.2.1, va_Nw.same rfl rfl h.2.2.1, va_Nw.same rfl rfl h.2.2.2.1, va_Nw.same rfl rfl h.2.2.2.2⟩
/-- read only: the cells, the tables -/
abbrev bw_Ro (D : va_G) (tys : List (ClassId × FieldType)) (ws : va_W) (As : List Value) : Array Value → State → Prop := va_Pc As (fun U => va_P D vwCl ws U.heap ∧ va_K D vwCl tys U ∧ bw_nx U)
theorem bw_pS (hP : va_P D vwCl ws H) (hK : va_K D vwCl tys s) (hN : bw_nx s) : PreS s H (bw_Ro D tys ws As) As :=
  ⟨fun a U g mk q => ⟨q.1, q.2.1, va_K.moved (u := U) (U := U.calling g mk a) (Vm.Alike.refl U.vm) q.2.2.1, bw_nx.call q.2.2.2⟩, fun U hU hW => ⟨rfl, by rw [hU]; exact hP, va_K.moved hW.alike hK, bw_nx.warm hW hN⟩⟩
theorem bw_pV {b ci q0 : Nat} {r : vw_C} {fs : List Value} (hP : va_P D vwCl ws H) (hK : va_K D vwCl tys s) (hN : bw_nx s) (hc : vwCl[ci]? = some r) (he : ws[q0]? = some (b, .inr (ci, fs))) : PreV s H r.1 b (bw_Ro D tys ws (.ref b :: As)) As :=
  ⟨(bw_pS hP hK hN).1, va_recv hK hP hc he, (bw_pS (As := .ref b :: As) hP hK hN).2⟩
/-- one that writes: its cells are apart -/
abbrev bw_Wr (D : va_G) (tys : List (ClassId × FieldType)) (ws : va_W) (sz : Nat) (As : List Value) : Array Value → State → Prop := va_Pc As (fun U => U.heap.size = sz ∧ va_P D vwCl ws U.heap ∧ va_K D vwCl tys U ∧ bw_nx U ∧ va_D (fun _ => True) ws)
theorem bw_qS {A : Nat → Prop} (hP : va_P D vwCl ws H) (hK : va_K D vwCl tys s) (hN : bw_nx s) (hD : va_D A ws) : PreS s H (bw_Wr D tys ws H.size As) As :=
  ⟨fun a U g mk q => ⟨q.1, q.2.1, q.2.2.1, va_K.moved (u := U) (U := U.calling g mk a) (Vm.Alike.refl U.vm) q.2.2.2.1, bw_nx.call q.2.2.2.2.1, q.2.2.2.2.2⟩, fun U hU hW => ⟨rfl, by rw [hU], by rw [hU]; exact hP, va_K.moved hW.alike hK, bw_nx.warm hW hN, hD.weaken (fun _ _ _ _ => trivial)⟩⟩
theorem bw_qV {A : Nat → Prop} {b ci q0 : Nat} {r : vw_C} {fs : List Value} (hP : va_P D vwCl ws H) (hK : va_K D vwCl tys s) (hN : bw_nx s) (hD : va_D A ws) (hc : vwCl[ci]? = some r) (he : ws[q0]? = some (b, .inr (ci, fs))) : PreV s H r.1 b (bw_Wr D tys ws H.size (.ref b :: As)) As :=
  ⟨(bw_qS hP hK hN hD).1, va_recv hK hP hc he, (bw_qS (As := .ref b :: As) hP hK hN hD).2⟩
end BWP
theorem bw_blk (b : Int32) : (∃ k, k < 40 ∧ b = nI k) ∨ (∀ k, k < 40 → ¬ b = nI k) := by
  by_cases h : ∃ k, k < 40 ∧ b = nI k
  · exact Or.inl h
  · exact Or.inr fun k hk e => h ⟨k, hk, e⟩
theorem bw_hasT {x : Int64} {k : Nat} (hk : k < 64) (h : ¬ (x &&& bw_b k) = 0) : bw_m x k = true := by
  cases hx : bw_m x k with
  | true => rfl
  | false => exact absurd ((bw_has hk).mpr hx) h
theorem bw_F_t {c : Nat → Bool} {g : Nat → Int64} {z : Int64} {n : Nat} (h : c n = true) : bw_F c g z (n + 1) = bw_F c g z n ||| g n := if_pos h
theorem bw_F_f {c : Nat → Bool} {g : Nat → Int64} {z : Int64} {n : Nat} (h : c n = false) : bw_F c g z (n + 1) = bw_F c g z n := if_neg (by rw [h]; simp)
theorem bw_A_t {c : Nat → Bool} {g : Nat → Int64} {z : Int64} {n : Nat} (h : c n = true) : bw_A c g z (n + 1) = bw_A c g z n &&& g n := if_pos h
theorem bw_A_f {c : Nat → Bool} {g : Nat → Int64} {z : Int64} {n : Nat} (h : c n = false) : bw_A c g z (n + 1) = bw_A c g z n := if_neg (by rw [h]; simp)
theorem bw_N_t {c : Nat → Bool} {n : Nat} (h : c n = true) : bw_N c (n + 1) = bw_N c n + 1 := if_pos h
theorem bw_N_f {c : Nat → Bool} {n : Nat} (h : c n = false) : bw_N c (n + 1) = bw_N c n := if_neg (by rw [h]; simp)
end
section
theorem bw_fl_s {st : Nat → Int64} {al f o : Int64} {n : Nat} (h : bw_lo o < 40) : bw_fl st al (n + 1) f o = bw_fl st al n (f ||| ((st (bw_lo o) &&& al) &&& (f ^^^ (-1)))) ((o &&& (bw_b (bw_lo o) ^^^ (-1))) ||| ((st (bw_lo o) &&& al) &&& (f ^^^ (-1)))) := if_pos h
theorem bw_fl_x {st : Nat → Int64} {al f o : Int64} {n : Nat} (h : ¬ bw_lo o < 40) : bw_fl st al n f o = f := by
  cases n with
  | zero => rfl
  | succ n => exact if_neg h
theorem bw_out_0 (sb : Nat → Int64) (b : Nat) : bw_out sb b 0 = sb := funext fun j => if_neg (by omega)
theorem bw_out_s (sb : Nat → Int64) (b n : Nat) : vp_updL (bw_out sb b n) n (bw_out sb b n n &&& (bw_b b ^^^ (-1))) = bw_out sb b (n + 1) := funext fun j => by
  by_cases e : j = n
  · subst e
    rw [pk_uLs]
    unfold bw_out
    rw [if_neg (by omega), if_pos (by omega)]
  · rw [pk_uLn e]
    unfold bw_out
    by_cases h : j < n
    · rw [if_pos h, if_pos (by omega)]
    · rw [if_neg h, if_neg (by omega)]
/-- a row whose first n are G's -/
def bw_up (G g : Nat → Int64) (n : Nat) : Nat → Int64 := fun j => if j < n then G j else g j
theorem bw_up_0 (G g : Nat → Int64) : bw_up G g 0 = g := funext fun j => if_neg (by omega)
theorem bw_up_s (G g : Nat → Int64) (n : Nat) {x : Int64} (hx : x = G n) : vp_updL (bw_up G g n) n x = bw_up G g (n + 1) := funext fun j => by
  subst hx
  by_cases e : j = n
  · subst e
    rw [pk_uLs]
    unfold bw_up
    rw [if_pos (by omega)]
  · rw [pk_uLn e]
    unfold bw_up
    by_cases h : j < n
    · rw [if_pos h, if_pos (by omega)]
    · rw [if_neg h, if_neg (by omega)]
theorem bw_up_at {G g : Nat → Int64} {n j : Nat} (h : j < n) : bw_up G g n j = G j := if_pos h
theorem bw_max {a b : Nat} (ha : a < 2 ^ 31) (hb : b < 2 ^ 31) : (if nI a < nI b then nI b else nI a) = nI (if a < b then b else a) := by
  by_cases h : a < b
  · rw [if_pos h, if_pos ((nI_ltI ha hb).mpr h)]
  · rw [if_neg h, if_neg (fun z => h ((nI_ltI ha hb).mp z))]
/-- the smallest round so far -/
def bw_sR (bl : Nat → Int64) (b i : Nat) (hd : Int32) (fw : Nat) : Prop := (bw_sm bl b i = none ∧ hd = -1 ∧ fw = 41) ∨ ∃ j, bw_sm bl b i = some j ∧ hd = nI j ∧ fw = bw_c (bl j) 40
theorem bw_sR_0 (bl : Nat → Int64) (b : Nat) : bw_sR bl b 0 (-1) 41 := Or.inl ⟨rfl, rfl, rfl⟩
theorem bw_sR_le {bl : Nat → Int64} {b i : Nat} {hd : Int32} {fw : Nat} (h : bw_sR bl b i hd fw) : fw ≤ 41 := by
  rcases h with ⟨-, -, h⟩ | ⟨j, -, -, h⟩
  · omega
  · have := bw_c_le (bl j) 40; omega
theorem bw_sR_t {bl : Nat → Int64} {b i : Nat} {hd : Int32} {fw : Nat} (h : bw_sR bl b i hd fw) (h1 : bw_m (bl i) b = true) (h2 : ¬ fw ≤ bw_c (bl i) 40) : bw_sR bl b (i + 1) (nI i) (bw_c (bl i) 40) := by
  refine Or.inr ⟨i, ?_, rfl, rfl⟩
  unfold bw_sm
  rcases h with ⟨e, -, -⟩ | ⟨j, e, -, e3⟩
  · rw [e]; simp [h1]
  · rw [e]
    have : bw_c (bl i) 40 < bw_c (bl j) 40 := by omega
    simp [h1, this]
theorem bw_sR_f {bl : Nat → Int64} {b i : Nat} {hd : Int32} {fw : Nat} (h : bw_sR bl b i hd fw) (h1 : bw_m (bl i) b = false) : bw_sR bl b (i + 1) hd fw := by
  rcases h with ⟨e, e2, e3⟩ | ⟨j, e, e2, e3⟩
  · refine Or.inl ⟨?_, e2, e3⟩
    unfold bw_sm
    rw [e]; simp [h1]
  · refine Or.inr ⟨j, ?_, e2, e3⟩
    unfold bw_sm
    rw [e]; simp [h1]
theorem bw_sR_g {bl : Nat → Int64} {b i : Nat} {hd : Int32} {fw : Nat} (h : bw_sR bl b i hd fw) (h2 : fw ≤ bw_c (bl i) 40) : bw_sR bl b (i + 1) hd fw := by
  have hc := bw_c_le (bl i) 40
  rcases h with ⟨e, e2, e3⟩ | ⟨j, e, e2, e3⟩
  · omega
  · refine Or.inr ⟨j, ?_, e2, e3⟩
    unfold bw_sm
    rw [e]
    have : ¬ bw_c (bl i) 40 < bw_c (bl j) 40 := by omega
    simp [this]
theorem bw_sR_h {bl : Nat → Int64} {b i : Nat} {hd : Int32} {fw : Nat} (h : bw_sR bl b i hd fw) : hd = bw_h (bw_sm bl b i) := by
  rcases h with ⟨e, e2, -⟩ | ⟨j, e, e2, -⟩
  · rw [e, e2]; rfl
  · rw [e, e2]; rfl
theorem bw_c40 {x : Int64} (h : ∀ i, bw_m x i = true → i < 40) : bw_c x 64 = bw_c x 40 := bw_c_cut (fun i hi => by
  cases hx : bw_m x i with
  | false => rfl
  | true => exact absurd (h i hx) (by omega)) 64 (by omega)
theorem bw_nzT {x : Int64} (h : ¬ x = 0) : (!decide (x = 0)) = true := by rw [decide_eq_false h]; rfl
theorem bw_nzF {x : Int64} (h : x = 0) : (!decide (x = 0)) = false := by rw [decide_eq_true h]; rfl
theorem bw_nearA_0 {gt : Nat → Int64} {k i : Nat} {acc : Int64} (ea : acc = bw_A (bw_m (bw_gates gt k &&& (bw_b k ^^^ (-1)))) gt (bw_gates gt k &&& (bw_b k ^^^ (-1))) i) (hi : i = 40) (z : acc = 0) : (-1 : Int32) = bw_nearA gt k := by
  subst hi
  have e9 : acc = bw_near gt k := ea
  unfold bw_nearA
  rw [← e9, if_pos z]
theorem bw_nearA_1 {gt : Nat → Int64} {k i : Nat} {acc : Int64} (ea : acc = bw_A (bw_m (bw_gates gt k &&& (bw_b k ^^^ (-1)))) gt (bw_gates gt k &&& (bw_b k ^^^ (-1))) i) (hi : i = 40) (z : ¬ acc = 0) : nI (bw_lo acc) = bw_nearA gt k := by
  subst hi
  have e9 : acc = bw_near gt k := ea
  unfold bw_nearA
  rw [← e9, if_neg z]
theorem bw_cAl {D : va_G} {cl : List vw_C} {tys : List (ClassId × FieldType)} {U : State} (hK : va_K D cl tys U) (i j : Nat) {c1 c2 : ClassId} (hi : tys[i]? = some (c1, .long)) (hj : tys[j]? = some (c2, .long)) : c1 = c2 := by
  have h1 : U.vm.findClass ("[" ++ FieldType.long.toString) = some c1 := (hK.2 i _ hi).2
  have h2 : U.vm.findClass ("[" ++ FieldType.long.toString) = some c2 := (hK.2 j _ hj).2
  exact Option.some.inj (h1.symm.trans h2)
theorem bw_cAi {D : va_G} {cl : List vw_C} {tys : List (ClassId × FieldType)} {U : State} (hK : va_K D cl tys U) (i j : Nat) {c1 c2 : ClassId} (hi : tys[i]? = some (c1, .int)) (hj : tys[j]? = some (c2, .int)) : c1 = c2 := by
  have h1 : U.vm.findClass ("[" ++ FieldType.int.toString) = some c1 := (hK.2 i _ hi).2
  have h2 : U.vm.findClass ("[" ++ FieldType.int.toString) = some c2 := (hK.2 j _ hj).2
  exact Option.some.inj (h1.symm.trans h2)
section BWK
variable {p : Program} {l : Launch} {e : Env} {R : Room} {s : State} {m : MethodId} {args : Array Value} {below : List Frame} {meth : Method} {c : Code} {H : Heap} {locs : List Loc} {cells slots : Nat}
/-- a private static method of a nest mate, called with at most k words below its arguments -/
theorem bw_runSNk {y : MethodName} {bytes cc : ByteArray} {maxL nL mc ms index : Nat} {ret : Option FieldType} {ws ws' : List Cond} {rm : Room} {Pc : Array Value → State → Prop} {Qc : Array Value → State → Outcome → State → Prop} {free : Addr → Prop} {Ts : List Cond} {own host : String} {As rest : List Value} {g : JFrame} (k n : Nat)
    (S : CallFix p m c cc nL s args Ts own) (hM : Met l y ws rm Pc Qc mc ms free) (hG : GoodIn Ts ws) (hw : ws = Cond.code y bytes maxL ret :: ws') (hrc : rm.cells = mc) (hrs : rm.slots = ms) (hl : va_Nw (.methodLinkNest own index y host) s) (hini : (Cond.initialized y.cls).before args s = true)
    (hd : y.cls ≠ "java/lang/invoke/MethodHandle" ∧ y.cls ≠ "java/lang/invoke/VarHandle" ∧ (parseMethodDescriptor y.desc).map (fun d => d.parameters.length) = some n) (hR : rm.frames + 1 ≤ R.frames ∧ k + (maxL + 11) + rm.locals ≤ R.locals) (hst : (Cond.static y).before args s = true) (hp : PreS s H Pc As)
    (hg : g.method = m) (hn : As.length = n) (hsize : g.locals.size = nL) (hstack : g.stack = As.reverse ++ rest) (hW : 2 * g.monitorRoom + (rest.map fun v => v.category).sum ≤ k) (hdg : decode cc g.pc = .ok (.invokestatic index, 3)) (hf : cells + mc ≤ R.cells ∧ slots + ms ≤ R.slots) :
    CallRun p l e R s m args below meth c H locs cells slots mc ms g rest (Qc As.toArray) free := by
  obtain ⟨hx, hb, hml, ho, ht⟩ := S
  have hc : Cond.code y bytes maxL ret ∈ ws := by rw [hw]; exact List.mem_cons_self
  have hK : Back l R p e below s args y 3 k (PreOf R mc ms Pc) (PostOf Qc mc ms free) := back_of (bytes := bytes) (maxL := maxL) (ret := ret) hM hp.1 hrc hrs hR.1 hR.2 (pay_in ht hG) hc (fun a' U hW9 => word_at hW9 (Or.inl (by first | rfl | simp [Cond.onTables, Cond.keeps, Cond.steady])) hini)
  have hlen : ∀ sig, parseMethodDescriptor y.desc = some sig → As.length = sig.parameters.length := fun sig h => by
    have h2 := hd.2.2
    rw [h] at h2
    rw [hn]
    exact (Option.some.inj h2).symm
  intro T hT X
  obtain ⟨v, vm₁, ⟨U', l2, c2, s2⟩, hW₁, X', ⟨g', mk, t, L, e1, e2, hq, h1, hL, h2, h3⟩, st⟩ := va_callSN X hx (bytes := bytes) (maxL := maxL) (ret := ret) ho (va_Nw.use rfl hl) hst hini (ht _ (hG _ hc).1) ⟨hd.1, hd.2.1⟩ hK hg (hsize.trans hml.symm) (argsL := As) (rest := rest) hlen hstack hW (by rw [hb]; exact hdg)
    (fun vm₁ hW₁ => ⟨hf.1, hf.2, hp.2 (T.setVm vm₁) hT hW₁⟩)
  dsimp only [Pt.U, Pt.locs, Pt.cells, Pt.slots] at X' e1 e2 h1 h2 h3 st
  subst h1; subst h2; subst h3
  exact ⟨v, (T.setVm vm₁).calling g' mk As.toArray, t, U', L, hT, X', hL, e1, hq, st⟩
theorem bw_roomk {pc k : Nat} {ls : Array Slot} {rest st : List Value} (h : (st.map fun v => v.category).sum ≤ k) : 2 * (F0 m pc ls rest).monitorRoom + (st.map fun v => v.category).sum ≤ k := by
  have h0 : (F0 m pc ls rest).monitorRoom = 0 := rfl
  omega
end BWK

/-- kept where the flag is 0, else renewed -/
def bw_q {α : Type} (f : Int32) (a b : α) : α := if f = 0 then a else b
theorem bw_q_t {α : Type} {f : Int32} {a b : α} (h : f = 0) : bw_q f a b = a := if_pos h
theorem bw_q_f {α : Type} {f : Int32} {a b : α} (h : ¬ f = 0) : bw_q f a b = b := if_neg h
def bw_nc (so : Nat → Int64) (T : Int64) : Int64 := bw_flood so (bw_b 0) T
def bw_ng (so : Nat → Int64) (T : Int64) (go : Nat → Int64) : Nat → Int64 := bw_up (bw_gt so (bw_b 0) (bw_nc so T)) go 40
def bw_nl (so sb : Nat → Int64) (T : Int64) (go bl : Nat → Int64) : Nat → Int64 := bw_up (bw_bl sb (bw_ng so T go) (bw_nc so T)) bl 40
def bw_ends (T : Int64) (tc : Nat → Int32) : Int64 := bw_F (fun b => bw_m T b && decide (tc b = 0)) bw_b 0 40
def bw_mc (sb : Nat → Int64) (T : Int64) (tc : Nat → Int32) : Int64 := bw_flood sb (bw_ends T tc) T
def bw_mg (sb : Nat → Int64) (T : Int64) (tc : Nat → Int32) (gb : Nat → Int64) : Nat → Int64 := bw_up (bw_gt sb (bw_ends T tc) (bw_mc sb T tc)) gb 40
theorem bw_endT {T : Int64} {tc : Nat → Int32} {i : Nat} (h1 : bw_m T i = true) (h2 : tc i = 0) : (bw_m T i && decide (tc i = 0)) = true := by rw [h1, decide_eq_true h2]; rfl
theorem bw_endF1 {T : Int64} {tc : Nat → Int32} {i : Nat} (h1 : bw_m T i = false) : (bw_m T i && decide (tc i = 0)) = false := by rw [h1]; rfl
theorem bw_endF2 {T : Int64} {tc : Nat → Int32} {i : Nat} (h2 : ¬ tc i = 0) : (bw_m T i && decide (tc i = 0)) = false := by rw [decide_eq_false h2, Bool.and_false]
theorem bw_sw_t {src : Nat → Int64} {left : Int64} {n : Nat} (h : (src n &&& bw_sw src left n) = 0) : bw_sw src left (n + 1) = bw_sw src left n &&& (bw_b n ^^^ (-1)) := if_pos h
theorem bw_sw_f {src : Nat → Int64} {left : Int64} {n : Nat} (h : ¬ (src n &&& bw_sw src left n) = 0) : bw_sw src left (n + 1) = bw_sw src left n := if_neg h
theorem bw_swk_s {src : Nat → Int64} {left : Int64} {k : Nat} (h : ¬ left = 0) : bw_swk src (k + 1) left = bw_swk src k (bw_sw src left 40) := if_neg h
theorem bw_swk_x {src : Nat → Int64} {left : Int64} {k : Nat} (h : left = 0) : bw_swk src k left = left := by
  cases k with
  | zero => rfl
  | succ k => exact if_pos h
theorem bw_jn_s {rim : Nat → Int64} {j f o : Int64} {n : Nat} (h : bw_lo o < 40) : bw_jn rim (n + 1) j f o = bw_jn rim n (j ||| rim (bw_lo o)) (f ||| rim (bw_lo o)) ((o &&& (bw_b (bw_lo o) ^^^ (-1))) ||| (rim (bw_lo o) &&& (f ^^^ (-1)))) := if_pos h
theorem bw_jn_x {rim : Nat → Int64} {j f o : Int64} {n : Nat} (h : ¬ bw_lo o < 40) : bw_jn rim n j f o = j := by
  cases n with
  | zero => rfl
  | succ n => exact if_neg h
end
section
set_option maxHeartbeats 4000000 in
set_option maxRecDepth 100000 in
theorem c_bit (l : Launch) (k : Nat) : Met l yB_bit wsB_bit ({ frames := 0, cells := 0, slots := 0, locals := 0 } : Room) (fun v _ => v = ([.int (nI k)] : List Value).toArray) (vp_Sl (fun r => r = bw_b k)) 0 0 (fun _ => False) := by
  refine Met.ofW (cc := cB_bit) (maxL := 1) (ret := (some .long)) (by decide) rfl ?_
  intro p e s m args below meth c s₁ B hml hv
  obtain rfl := hv
  have hx := B.exec
  have hb := B.bytes
  have hr := B.returns
  have hts := atoms_spec (ws := wsB_bit) B.pre
  have hT : ∀ w ∈ bwB, w.before _ s = true := fun w h => hts w (List.mem_cons_of_mem _ h)
  have hown : s.vm.findClass RB = some m.cls := findClass_of_methodNamed B.named
  have hlocks := B.notSynchronized
  have hl := lv_entry ([.int (nI k)]) (n := 1) (Nat.le_of_ble_eq_true rfl)
  rw [lg_entry_eq]
  generalize (lg_sl ([.int (nI k)]) ++ List.replicate (1 - (lg_sl ([.int (nI k)])).length) Slot.unset).toArray = ls at hl ⊢
  have hl : lv_has ls 1 [(0, .int (nI k))] := hl
  refine lv_lconst (v := 1) hx hb dB_bit_0 (by decide) ?_
  refine lv_iload_n hx hb dB_bit_1 rfl (lv_at hl 0 rfl) ?_
  refine lv_lshl hx hb dB_bit_2 rfl ?_
  exact W.lret (v := 1 <<< ((nI k).toInt64 &&& 63)) hx hb hr (fun t9 ht9 hW9 => ⟨_, rfl, rfl, ht9⟩) (fun q hq => nomatch hq) dB_bit_3
set_option maxHeartbeats 4000000 in
set_option maxRecDepth 100000 in
theorem c_isB1 (l : Launch) (k : Nat) (hk : k < 40) : Met l yB_isBlock wsB_isBlock ({ frames := 0, cells := 0, slots := 0, locals := 0 } : Room) (fun v _ => v = ([.int (nI k)] : List Value).toArray) (vp_Si (fun r => r = 1)) 0 0 (fun _ => False) := by
  refine Met.ofW (cc := cB_isBlock) (maxL := 1) (ret := (some .boolean)) (by decide) rfl ?_
  intro p e s m args below meth c s₁ B hml hv
  obtain rfl := hv
  have hx := B.exec
  have hb := B.bytes
  have hr := B.returns
  have hts := atoms_spec (ws := wsB_isBlock) B.pre
  have hT : ∀ w ∈ bwB, w.before _ s = true := fun w h => hts w (List.mem_cons_of_mem _ h)
  have hown : s.vm.findClass RB = some m.cls := findClass_of_methodNamed B.named
  have hlocks := B.notSynchronized
  have hl := lv_entry ([.int (nI k)]) (n := 1) (Nat.le_of_ble_eq_true rfl)
  rw [lg_entry_eq]
  generalize (lg_sl ([.int (nI k)]) ++ List.replicate (1 - (lg_sl ([.int (nI k)])).length) Slot.unset).toArray = ls at hl ⊢
  have hl : lv_has ls 1 [(0, .int (nI k))] := hl
  refine lv_iload_n hx hb dB_isBlock_0 rfl (lv_at hl 0 rfl) ?_
  refine lv_if_lt (tgt := 14) hx hb dB_isBlock_1 (by decide) (fun c_1 => ?_) (fun c_1 => ?_)
  · skip
    exact absurd c_1 (nI_pos (by omega))
  · skip
    refine lv_iload_n hx hb dB_isBlock_4 rfl (lv_at hl 0 rfl) ?_
    refine lv_bipush (v := nI 40) hx hb dB_isBlock_5 (by decide) ?_
    refine lv_icmp_ge (tgt := 14) hx hb dB_isBlock_7 (by decide) (fun c_2 => ?_) (fun c_2 => ?_)
    · skip
      have c_2 : 40 ≤ k := (nI_leI (a := 40) (b := k) (by omega) (by omega)).mp c_2
      exact absurd c_2 (by omega)
    · skip
      have c_2 : ¬ 40 ≤ k := fun z => c_2 ((nI_leI (a := 40) (b := k) (by omega) (by omega)).mpr z)
      refine lv_iconst (v := 1) hx hb dB_isBlock_10 (by decide) ?_
      refine lv_goto (tgt := 15) hx hb dB_isBlock_11 (by decide) ?_
      exact W.zret (v := 1) hx hb hr rfl (fun t9 ht9 hW9 => ⟨_, rfl, rfl, ht9⟩) (fun q hq => nomatch hq) dB_isBlock_15
set_option maxHeartbeats 4000000 in
set_option maxRecDepth 100000 in
theorem c_isB0 (l : Launch) (b : Int32) (hb9 : ∀ k, k < 40 → ¬ b = nI k) : Met l yB_isBlock wsB_isBlock ({ frames := 0, cells := 0, slots := 0, locals := 0 } : Room) (fun v _ => v = ([.int b] : List Value).toArray) (vp_Si (fun r => r = 0)) 0 0 (fun _ => False) := by
  refine Met.ofW (cc := cB_isBlock) (maxL := 1) (ret := (some .boolean)) (by decide) rfl ?_
  intro p e s m args below meth c s₁ B hml hv
  obtain rfl := hv
  have hx := B.exec
  have hb := B.bytes
  have hr := B.returns
  have hts := atoms_spec (ws := wsB_isBlock) B.pre
  have hT : ∀ w ∈ bwB, w.before _ s = true := fun w h => hts w (List.mem_cons_of_mem _ h)
  have hown : s.vm.findClass RB = some m.cls := findClass_of_methodNamed B.named
  have hlocks := B.notSynchronized
  have hl := lv_entry ([.int b]) (n := 1) (Nat.le_of_ble_eq_true rfl)
  rw [lg_entry_eq]
  generalize (lg_sl ([.int b]) ++ List.replicate (1 - (lg_sl ([.int b])).length) Slot.unset).toArray = ls at hl ⊢
  have hl : lv_has ls 1 [(0, .int b)] := hl
  refine lv_iload_n hx hb dB_isBlock_0 rfl (lv_at hl 0 rfl) ?_
  refine lv_if_lt (tgt := 14) hx hb dB_isBlock_1 (by decide) (fun c_1 => ?_) (fun c_1 => ?_)
  · skip
    refine lv_iconst (v := 0) hx hb dB_isBlock_14 (by decide) ?_
    exact W.zret (v := 0) hx hb hr rfl (fun t9 ht9 hW9 => ⟨_, rfl, rfl, ht9⟩) (fun q hq => nomatch hq) dB_isBlock_15
  · skip
    refine lv_iload_n hx hb dB_isBlock_4 rfl (lv_at hl 0 rfl) ?_
    refine lv_bipush (v := nI 40) hx hb dB_isBlock_5 (by decide) ?_
    refine lv_icmp_ge (tgt := 14) hx hb dB_isBlock_7 (by decide) (fun c_2 => ?_) (fun c_2 => ?_)
    · skip
      refine lv_iconst (v := 0) hx hb dB_isBlock_14 (by decide) ?_
      exact W.zret (v := 0) hx hb hr rfl (fun t9 ht9 hW9 => ⟨_, rfl, rfl, ht9⟩) (fun q hq => nomatch hq) dB_isBlock_15
    · skip
      rcases pk_ix b (n := 40) (by decide) with z | z | ⟨j, z1, z2⟩
      · exact absurd z c_1
      · exact absurd z c_2
      · exact absurd z2 (hb9 j z1)
set_option maxHeartbeats 4000000 in
set_option maxRecDepth 100000 in
theorem c_has (l : Launch) (x : Int64) (k : Nat) (hk : k < 64) : Met l yB_has wsB_has ({ frames := 1, cells := 0, slots := 0, locals := 20 } : Room) (fun v _ => v = ([.long x, .int (nI k)] : List Value).toArray) (vp_Si (fun r => r = bw_i (bw_m x k))) 0 0 (fun _ => False) := by
  refine Met.ofW (cc := cB_has) (maxL := 3) (ret := (some .boolean)) (by decide) rfl ?_
  intro p e s m args below meth c s₁ B hml hv
  obtain rfl := hv
  have hx := B.exec
  have hb := B.bytes
  have hr := B.returns
  have hts := atoms_spec (ws := wsB_has) B.pre
  have hT : ∀ w ∈ bwB, w.before _ s = true := fun w h => hts w (List.mem_cons_of_mem _ h)
  have hown : s.vm.findClass RB = some m.cls := findClass_of_methodNamed B.named
  have hlocks := B.notSynchronized
  have hl := lv_entry ([.long x, .int (nI k)]) (n := 3) (Nat.le_of_ble_eq_true rfl)
  rw [lg_entry_eq]
  generalize (lg_sl ([.long x, .int (nI k)]) ++ List.replicate (3 - (lg_sl ([.long x, .int (nI k)])).length) Slot.unset).toArray = ls at hl ⊢
  have hl : lv_has ls 3 [(0, .long x), (2, .int (nI k))] := hl
  refine lv_lload_n hx hb dB_has_0 rfl (lv_at hl 0 rfl) ?_
  refine lv_iload_n hx hb dB_has_1 rfl (lv_at hl 1 rfl) ?_
  refine vp_callSl (W.runS (As := [.int (nI k)]) (rest := [.long x]) ⟨hx, hb, hml, hown, hT⟩ (c_bit l k) (cwS 1 hT g_B_49 rfl rfl rfl (by decide +kernel) ⟨Nat.le_of_ble_eq_true rfl, Nat.le_of_ble_eq_true rfl⟩) preEq rfl rfl hl.1 rfl (lv_room (Nat.le_of_ble_eq_true rfl)) dB_has_2 ⟨Nat.le_of_ble_eq_true rfl, Nat.le_of_ble_eq_true rfl⟩) (fun r_1 hr_1 => ?_)
  rw [hr_1]; clear hr_1
  refine lv_land hx hb dB_has_5 ?_
  refine lv_lconst (v := 0) hx hb dB_has_6 (by decide) ?_
  refine W.lcmp hx hb dB_has_7 ?_
  refine lv_if_eq (tgt := 15) hx hb dB_has_8 (by decide) (fun c_2 => ?_) (fun c_2 => ?_)
  · skip
    have c_2 := bw_cmp0.mp c_2
    refine lv_iconst (v := 0) hx hb dB_has_15 (by decide) ?_
    exact W.zret (v := 0) hx hb hr rfl (fun t9 ht9 hW9 => ⟨_, rfl, (by first | exact (bw_iF ((bw_has hk).mp c_2)).symm | exact (bw_iT (bw_hasT hk c_2)).symm), ht9⟩) (fun q hq => nomatch hq) dB_has_16
  · skip
    have c_2 := fun z => c_2 (bw_cmp0.mpr z)
    refine lv_iconst (v := 1) hx hb dB_has_11 (by decide) ?_
    refine lv_goto (tgt := 16) hx hb dB_has_12 (by decide) ?_
    exact W.zret (v := 1) hx hb hr rfl (fun t9 ht9 hW9 => ⟨_, rfl, (by first | exact (bw_iF ((bw_has hk).mp c_2)).symm | exact (bw_iT (bw_hasT hk c_2)).symm), ht9⟩) (fun q hq => nomatch hq) dB_has_16
set_option maxHeartbeats 4000000 in
set_option maxRecDepth 100000 in
theorem c_bitCount (l : Launch) (x : Int64) : Met l yJ_bitCount wsJ_bitCount ({ frames := 0, cells := 0, slots := 0, locals := 0 } : Room) (fun v _ => v = ([.long x] : List Value).toArray) (vp_Si (fun r => r = nI (bw_c x 64))) 0 0 (fun _ => False) := by
  refine Met.ofW (cc := cJ_bitCount) (maxL := 2) (ret := (some .int)) (by decide) rfl ?_
  intro p e s m args below meth c s₁ B hml hv
  obtain rfl := hv
  have hx := B.exec
  have hb := B.bytes
  have hr := B.returns
  have hts := atoms_spec (ws := wsJ_bitCount) B.pre
  have hT : ∀ w ∈ bwB, w.before _ s = true := fun w h => hts w (List.mem_cons_of_mem _ h)
  have hown : s.vm.findClass RJ = some m.cls := findClass_of_methodNamed B.named
  have hlocks := B.notSynchronized
  have hl := lv_entry ([.long x]) (n := 2) (Nat.le_of_ble_eq_true rfl)
  rw [lg_entry_eq]
  generalize (lg_sl ([.long x]) ++ List.replicate (2 - (lg_sl ([.long x])).length) Slot.unset).toArray = ls at hl ⊢
  have hl : lv_has ls 2 [(0, .long x)] := hl
  refine lv_lload_n hx hb dJ_bitCount_0 rfl (lv_at hl 0 rfl) ?_
  refine lv_lload_n hx hb dJ_bitCount_1 rfl (lv_at hl 0 rfl) ?_
  refine lv_iconst (v := 1) hx hb dJ_bitCount_2 (by decide) ?_
  refine lv_lushr hx hb dJ_bitCount_3 rfl ?_
  refine lv_ldc2 (v := 6148914691236517205) hx hb hown (hT _ hw_137) dJ_bitCount_4 ?_
  refine lv_land hx hb dJ_bitCount_7 ?_
  refine lv_lsub hx hb dJ_bitCount_8 ?_
  refine lv_topl (fun x1 ex1 => ?_)
  refine lv_lstore_n (lv' := [(0, .long x1)]) hx hb dJ_bitCount_9 rfl hl (by decide) rfl (fun ls hl => ?_)
  refine lv_lload_n hx hb dJ_bitCount_10 rfl (lv_at hl 0 rfl) ?_
  refine lv_ldc2 (v := 3689348814741910323) hx hb hown (hT _ hw_138) dJ_bitCount_11 ?_
  refine lv_land hx hb dJ_bitCount_14 ?_
  refine lv_lload_n hx hb dJ_bitCount_15 rfl (lv_at hl 0 rfl) ?_
  refine lv_iconst (v := 2) hx hb dJ_bitCount_16 (by decide) ?_
  refine lv_lushr hx hb dJ_bitCount_17 rfl ?_
  refine lv_ldc2 (v := 3689348814741910323) hx hb hown (hT _ hw_138) dJ_bitCount_18 ?_
  refine lv_land hx hb dJ_bitCount_21 ?_
  refine lv_ladd hx hb dJ_bitCount_22 ?_
  refine lv_topl (fun x2 ex2 => ?_)
  refine lv_lstore_n (lv' := [(0, .long x2)]) hx hb dJ_bitCount_23 rfl hl (by decide) rfl (fun ls hl => ?_)
  refine lv_lload_n hx hb dJ_bitCount_24 rfl (lv_at hl 0 rfl) ?_
  refine lv_lload_n hx hb dJ_bitCount_25 rfl (lv_at hl 0 rfl) ?_
  refine lv_iconst (v := 4) hx hb dJ_bitCount_26 (by decide) ?_
  refine lv_lushr hx hb dJ_bitCount_27 rfl ?_
  refine lv_ladd hx hb dJ_bitCount_28 ?_
  refine lv_ldc2 (v := 1085102592571150095) hx hb hown (hT _ hw_139) dJ_bitCount_29 ?_
  refine lv_land hx hb dJ_bitCount_32 ?_
  refine lv_topl (fun x3 ex3 => ?_)
  refine lv_lstore_n (lv' := [(0, .long x3)]) hx hb dJ_bitCount_33 rfl hl (by decide) rfl (fun ls hl => ?_)
  refine lv_lload_n hx hb dJ_bitCount_34 rfl (lv_at hl 0 rfl) ?_
  refine lv_lload_n hx hb dJ_bitCount_35 rfl (lv_at hl 0 rfl) ?_
  refine lv_bipush (v := 8) hx hb dJ_bitCount_36 (by decide) ?_
  refine lv_lushr hx hb dJ_bitCount_38 rfl ?_
  refine lv_ladd hx hb dJ_bitCount_39 ?_
  refine lv_topl (fun y1 ey1 => ?_)
  refine lv_lstore_n (lv' := [(0, .long y1)]) hx hb dJ_bitCount_40 rfl hl (by decide) rfl (fun ls hl => ?_)
  refine lv_lload_n hx hb dJ_bitCount_41 rfl (lv_at hl 0 rfl) ?_
  refine lv_lload_n hx hb dJ_bitCount_42 rfl (lv_at hl 0 rfl) ?_
  refine lv_bipush (v := 16) hx hb dJ_bitCount_43 (by decide) ?_
  refine lv_lushr hx hb dJ_bitCount_45 rfl ?_
  refine lv_ladd hx hb dJ_bitCount_46 ?_
  refine lv_topl (fun y2 ey2 => ?_)
  refine lv_lstore_n (lv' := [(0, .long y2)]) hx hb dJ_bitCount_47 rfl hl (by decide) rfl (fun ls hl => ?_)
  refine lv_lload_n hx hb dJ_bitCount_48 rfl (lv_at hl 0 rfl) ?_
  refine lv_lload_n hx hb dJ_bitCount_49 rfl (lv_at hl 0 rfl) ?_
  refine lv_bipush (v := 32) hx hb dJ_bitCount_50 (by decide) ?_
  refine lv_lushr hx hb dJ_bitCount_52 rfl ?_
  refine lv_ladd hx hb dJ_bitCount_53 ?_
  refine lv_topl (fun y3 ey3 => ?_)
  refine lv_lstore_n (lv' := [(0, .long y3)]) hx hb dJ_bitCount_54 rfl hl (by decide) rfl (fun ls hl => ?_)
  refine lv_lload_n hx hb dJ_bitCount_55 rfl (lv_at hl 0 rfl) ?_
  refine lv_l2i hx hb dJ_bitCount_56 rfl ?_
  refine lv_bipush (v := 127) hx hb dJ_bitCount_57 (by decide) ?_
  refine lv_iand hx hb dJ_bitCount_59 ?_
  exact W.iret (v := y3.toInt32 &&& 127) hx hb hr (fun t9 ht9 hW9 => ⟨_, rfl, bw_pop ex1 ex2 ex3 ey1 ey2 ey3, ht9⟩) (fun q hq => nomatch hq) dJ_bitCount_60
set_option maxHeartbeats 4000000 in
set_option maxRecDepth 100000 in
theorem c_lowest (l : Launch) (x : Int64) : Met l yB_lowest wsB_lowest ({ frames := 1, cells := 0, slots := 0, locals := 21 } : Room) (fun v _ => v = ([.long x] : List Value).toArray) (vp_Si (fun r => r = nI (bw_lo x))) 0 0 (fun _ => False) := by
  refine Met.ofW (cc := cB_lowest) (maxL := 2) (ret := (some .int)) (by decide) rfl ?_
  intro p e s m args below meth c s₁ B hml hv
  obtain rfl := hv
  have hx := B.exec
  have hb := B.bytes
  have hr := B.returns
  have hts := atoms_spec (ws := wsB_lowest) B.pre
  have hT : ∀ w ∈ bwB, w.before _ s = true := fun w h => hts w (List.mem_cons_of_mem _ h)
  have hown : s.vm.findClass RB = some m.cls := findClass_of_methodNamed B.named
  have hlocks := B.notSynchronized
  have hl := lv_entry ([.long x]) (n := 2) (Nat.le_of_ble_eq_true rfl)
  rw [lg_entry_eq]
  generalize (lg_sl ([.long x]) ++ List.replicate (2 - (lg_sl ([.long x])).length) Slot.unset).toArray = ls at hl ⊢
  have hl : lv_has ls 2 [(0, .long x)] := hl
  refine lv_lload_n hx hb dB_lowest_0 rfl (lv_at hl 0 rfl) ?_
  refine lv_lload_n hx hb dB_lowest_1 rfl (lv_at hl 0 rfl) ?_
  refine lv_lneg hx hb dB_lowest_2 ?_
  refine lv_land hx hb dB_lowest_3 ?_
  refine lv_lconst (v := 1) hx hb dB_lowest_4 (by decide) ?_
  refine lv_lsub hx hb dB_lowest_5 ?_
  refine vp_callSi (W.runS (As := [.long ((x &&& (-x)) - 1)]) (rest := []) ⟨hx, hb, hml, hown, hT⟩ (c_bitCount l ((x &&& (-x)) - 1)) (va_cwS 1 hT g_B_72 rfl rfl rfl (by decide +kernel) ⟨Nat.le_of_ble_eq_true rfl, Nat.le_of_ble_eq_true rfl⟩) preEq rfl rfl hl.1 rfl (lv_room (Nat.le_of_ble_eq_true rfl)) dB_lowest_6 ⟨Nat.le_of_ble_eq_true rfl, Nat.le_of_ble_eq_true rfl⟩) (fun r_1 hr_1 => ?_)
  rw [hr_1]; clear hr_1
  exact W.iret (v := nI (bw_c ((x &&& (-x)) - 1) 64)) hx hb hr (fun t9 ht9 hW9 => ⟨_, rfl, rfl, ht9⟩) (fun q hq => nomatch hq) dB_lowest_9
set_option maxHeartbeats 4000000 in
set_option maxRecDepth 100000 in
theorem c_covered (l : Launch) (dC : Nat → ClassId) (dI : Nat → Nat → Nat) (h a1 a2 : Nat) (cL : ClassId) (st gt : Nat → Int64) (cv : Int64) : Met l yS_covered wsS_covered ({ frames := 0, cells := 0, slots := 0, locals := 0 } : Room) (bw_Ro (dC, dI) [(cL, .long)] [(h, .inr (1, [.ref a1, .ref a2, .long cv])), (a1, .inl (cL, 40, .inr (.inl st))), (a2, .inl (cL, 40, .inr (.inl gt)))] [.ref h]) (vp_Sl (fun r => r = cv)) 0 0 (fun _ => False) := by
  refine Met.ofW (cc := cS_covered) (maxL := 1) (ret := (some .long)) (by decide) rfl ?_
  intro p e s m args below meth c s₁ B hml hv
  obtain ⟨rfl, hP, hK, hN⟩ := hv
  have hx := B.exec
  have hb := B.bytes
  have hr := B.returns
  have hts := atoms_spec (ws := wsS_covered) B.pre
  have hT : ∀ w ∈ bwB, w.before _ s = true := fun w h => hts w (List.mem_cons_of_mem _ h)
  have hown : s.vm.findClass RS = some m.cls := findClass_of_methodNamed B.named
  have hlocks := B.notSynchronized
  have hl := lv_entry ([.ref h]) (n := 1) (Nat.le_of_ble_eq_true rfl)
  rw [lg_entry_eq]
  generalize (lg_sl ([.ref h]) ++ List.replicate (1 - (lg_sl ([.ref h])).length) Slot.unset).toArray = ls at hl ⊢
  have hl : lv_has ls 1 [(0, .ref h)] := hl
  refine lv_aload_n hx hb dS_covered_0 rfl (lv_at hl 0 rfl) ?_
  refine va_get (D := (dC, dI)) (ci := 1) (v := .long cv) (C := RS) (T := TS) (N := 3) hx hb hT inS hown hK hP 0 rfl rfl 2 (by decide) (hT _ hw_44) (fun _ h9 => h9) rfl dS_covered_1 ?_
  exact W.lret (v := cv) hx hb hr (fun t9 ht9 hW9 => ⟨_, rfl, rfl, ht9⟩) (fun q hq => nomatch hq) dS_covered_4
set_option maxHeartbeats 4000000 in
set_option maxRecDepth 100000 in
theorem c_stepsOf (l : Launch) (dC : Nat → ClassId) (dI : Nat → Nat → Nat) (h a1 a2 : Nat) (cL : ClassId) (st gt : Nat → Int64) (cv : Int64) (k : Nat) (hk : k < 40) : Met l yS_stepsOf wsS_stepsOf ({ frames := 0, cells := 0, slots := 0, locals := 0 } : Room) (bw_Ro (dC, dI) [(cL, .long)] [(h, .inr (1, [.ref a1, .ref a2, .long cv])), (a1, .inl (cL, 40, .inr (.inl st))), (a2, .inl (cL, 40, .inr (.inl gt)))] [.ref h, .int (nI k)]) (vp_Sl (fun r => r = st k)) 0 0 (fun _ => False) := by
  refine Met.ofW (cc := cS_stepsOf) (maxL := 2) (ret := (some .long)) (by decide) rfl ?_
  intro p e s m args below meth c s₁ B hml hv
  obtain ⟨rfl, hP, hK, hN⟩ := hv
  have hx := B.exec
  have hb := B.bytes
  have hr := B.returns
  have hts := atoms_spec (ws := wsS_stepsOf) B.pre
  have hT : ∀ w ∈ bwB, w.before _ s = true := fun w h => hts w (List.mem_cons_of_mem _ h)
  have hown : s.vm.findClass RS = some m.cls := findClass_of_methodNamed B.named
  have hlocks := B.notSynchronized
  have hl := lv_entry ([.ref h, .int (nI k)]) (n := 2) (Nat.le_of_ble_eq_true rfl)
  rw [lg_entry_eq]
  generalize (lg_sl ([.ref h, .int (nI k)]) ++ List.replicate (2 - (lg_sl ([.ref h, .int (nI k)])).length) Slot.unset).toArray = ls at hl ⊢
  have hl : lv_has ls 2 [(0, .ref h), (1, .int (nI k))] := hl
  refine lv_aload_n hx hb dS_stepsOf_0 rfl (lv_at hl 0 rfl) ?_
  refine va_get (D := (dC, dI)) (ci := 1) (v := .ref a1) (C := RS) (T := TS) (N := 3) hx hb hT inS hown hK hP 0 rfl rfl 0 (by decide) (hT _ hw_42) (fun _ h9 => h9) rfl dS_stepsOf_1 ?_
  refine lv_iload_n hx hb dS_stepsOf_4 rfl (lv_at hl 1 rfl) ?_
  refine bw_lald hx hb hK hP 1 0 (k := k) rfl rfl (by omega) (by decide) dS_stepsOf_5 ?_
  exact W.lret (v := st k) hx hb hr (fun t9 ht9 hW9 => ⟨_, rfl, rfl, ht9⟩) (fun q hq => nomatch hq) dS_stepsOf_6
set_option maxHeartbeats 4000000 in
set_option maxRecDepth 100000 in
theorem c_gated (l : Launch) (dC : Nat → ClassId) (dI : Nat → Nat → Nat) (h a1 a2 : Nat) (cL : ClassId) (st gt : Nat → Int64) (cv : Int64) (k : Nat) (hk : k < 40) : Met l yS_gated wsS_gated ({ frames := 0, cells := 0, slots := 0, locals := 0 } : Room) (bw_Ro (dC, dI) [(cL, .long)] [(h, .inr (1, [.ref a1, .ref a2, .long cv])), (a1, .inl (cL, 40, .inr (.inl st))), (a2, .inl (cL, 40, .inr (.inl gt)))] [.ref h, .int (nI k)]) (vp_Sl (fun r => r = gt k)) 0 0 (fun _ => False) := by
  refine Met.ofW (cc := cS_gated) (maxL := 2) (ret := (some .long)) (by decide) rfl ?_
  intro p e s m args below meth c s₁ B hml hv
  obtain ⟨rfl, hP, hK, hN⟩ := hv
  have hx := B.exec
  have hb := B.bytes
  have hr := B.returns
  have hts := atoms_spec (ws := wsS_gated) B.pre
  have hT : ∀ w ∈ bwB, w.before _ s = true := fun w h => hts w (List.mem_cons_of_mem _ h)
  have hown : s.vm.findClass RS = some m.cls := findClass_of_methodNamed B.named
  have hlocks := B.notSynchronized
  have hl := lv_entry ([.ref h, .int (nI k)]) (n := 2) (Nat.le_of_ble_eq_true rfl)
  rw [lg_entry_eq]
  generalize (lg_sl ([.ref h, .int (nI k)]) ++ List.replicate (2 - (lg_sl ([.ref h, .int (nI k)])).length) Slot.unset).toArray = ls at hl ⊢
  have hl : lv_has ls 2 [(0, .ref h), (1, .int (nI k))] := hl
  refine lv_aload_n hx hb dS_gated_0 rfl (lv_at hl 0 rfl) ?_
  refine va_get (D := (dC, dI)) (ci := 1) (v := .ref a2) (C := RS) (T := TS) (N := 3) hx hb hT inS hown hK hP 0 rfl rfl 1 (by decide) (hT _ hw_43) (fun _ h9 => h9) rfl dS_gated_1 ?_
  refine lv_iload_n hx hb dS_gated_4 rfl (lv_at hl 1 rfl) ?_
  refine bw_lald hx hb hK hP 2 0 (k := k) rfl rfl (by omega) (by decide) dS_gated_5 ?_
  exact W.lret (v := gt k) hx hb hr (fun t9 ht9 hW9 => ⟨_, rfl, rfl, ht9⟩) (fun q hq => nomatch hq) dS_gated_6
set_option maxHeartbeats 4000000 in
set_option maxRecDepth 100000 in
theorem c_flood (l : Launch) (dC : Nat → ClassId) (dI : Nat → Nat → Nat) (h a1 a2 : Nat) (cL : ClassId) (st gt : Nat → Int64) (cv : Int64) (fi al : Int64) : Met l yS_flood wsS_flood ({ frames := 2, cells := 0, slots := 0, locals := 42 } : Room) (bw_Ro (dC, dI) [(cL, .long)] [(h, .inr (1, [.ref a1, .ref a2, .long cv])), (a1, .inl (cL, 40, .inr (.inl st))), (a2, .inl (cL, 40, .inr (.inl gt)))] [.ref h, .long fi, .long al]) (vp_Sl (fun r => r = bw_flood st fi al)) 0 0 (fun _ => False) := by
  refine Met.ofW (cc := cS_flood) (maxL := 13) (ret := (some .long)) (by decide) rfl ?_
  intro p e s m args below meth c s₁ B hml hv
  obtain ⟨rfl, hP, hK, hN⟩ := hv
  have hx := B.exec
  have hb := B.bytes
  have hr := B.returns
  have hts := atoms_spec (ws := wsS_flood) B.pre
  have hT : ∀ w ∈ bwB, w.before _ s = true := fun w h => hts w (List.mem_cons_of_mem _ h)
  have hown : s.vm.findClass RS = some m.cls := findClass_of_methodNamed B.named
  have hlocks := B.notSynchronized
  have hl := lv_entry ([.ref h, .long fi, .long al]) (n := 13) (Nat.le_of_ble_eq_true rfl)
  rw [lg_entry_eq]
  generalize (lg_sl ([.ref h, .long fi, .long al]) ++ List.replicate (13 - (lg_sl ([.ref h, .long fi, .long al])).length) Slot.unset).toArray = ls at hl ⊢
  have hl : lv_has ls 13 [(0, .ref h), (1, .long fi), (3, .long al)] := hl
  refine lv_lload_n hx hb dS_flood_0 rfl (lv_at hl 1 rfl) ?_
  refine lv_lload_n hx hb dS_flood_1 rfl (lv_at hl 2 rfl) ?_
  refine lv_land hx hb dS_flood_2 ?_
  refine lv_lstore (lv' := [(5, .long (fi &&& al)), (0, .ref h), (1, .long fi), (3, .long al)]) hx hb dS_flood_3 hl (by decide) rfl (fun ls hl => ?_)
  refine lv_lload hx hb dS_flood_5 (lv_at hl 0 rfl) ?_
  refine lv_lstore (lv' := [(7, .long (fi &&& al)), (5, .long (fi &&& al)), (0, .ref h), (1, .long fi), (3, .long al)]) hx hb dS_flood_7 hl (by decide) rfl (fun ls hl => ?_)
  refine lv_lload hx hb dS_flood_9 (lv_at hl 0 rfl) ?_
  refine vp_callSi (bw_C (va_runSN (As := [.long (fi &&& al)]) (rest := []) ⟨hx, hb, hml, hown, hT⟩ (c_lowest l (fi &&& al)) ⟨va_cnB 1 hT (bw_gi gn_B_lowest) rfl rfl rfl hN.2.1 (hT _ hw_18) (by decide +kernel) ⟨Nat.le_of_ble_eq_true rfl, Nat.le_of_ble_eq_true rfl⟩, hT _ hw_157, trivial⟩ preEq rfl rfl hl.1 rfl (lv_room (Nat.le_of_ble_eq_true rfl)) dS_flood_11 ⟨Nat.le_of_ble_eq_true rfl, Nat.le_of_ble_eq_true rfl⟩)) (fun r_1 hr_1 => ?_)
  rw [hr_1]; clear hr_1
  refine lv_istore (lv' := [(9, .int (nI (bw_lo (fi &&& al)))), (7, .long (fi &&& al)), (5, .long (fi &&& al)), (0, .ref h), (1, .long fi), (3, .long al)]) hx hb dS_flood_14 hl (by decide) rfl (fun ls hl => ?_)
  refine lv_iconst (v := nI 0) hx hb dS_flood_16 (by decide) ?_
  refine lv_istore (lv' := [(10, .int (nI 0)), (9, .int (nI (bw_lo (fi &&& al)))), (7, .long (fi &&& al)), (5, .long (fi &&& al)), (0, .ref h), (1, .long fi), (3, .long al)]) hx hb dS_flood_17 hl (by decide) rfl (fun ls hl => ?_)
  have loop_19 : ∀ (n_19 : Nat) (t : Nat) (f : Int64) (o : Int64), t ≤ 40 → 40 < t + n_19 → bw_fl st al (40 - t) f o = bw_flood st fi al → ∀ (ls : Array Slot), lv_has ls 13 [(0, .ref h), (1, .long fi), (3, .long al), (5, .long f), (7, .long o), (9, .int (nI (bw_lo o))), (10, .int (nI t))] → W p l e (headSpec wsS_flood ({ frames := 2, cells := 0, slots := 0, locals := 42 } : Room)).room s m ([.ref h, .long fi, .long al] : List Value).toArray below meth c s.heap [] 0 0 (MQ below (vp_Sl (fun r => r = bw_flood st fi al)) ([.ref h, .long fi, .long al] : List Value).toArray s 0 0 (fun _ => False)) (F0 m 19 ls []) := by
    intro n_19
    induction n_19 with
    | zero => intro t f o ht hf hR; exfalso; omega
    | succ n_19 ih_19 =>
      intro t f o ht hf hR ls hl
      have hlo := bw_lo_le o
      refine lv_iload hx hb dS_flood_19 (lv_at hl 6 rfl) ?_
      refine lv_bipush (v := nI 40) hx hb dS_flood_21 (by decide) ?_
      refine lv_icmp_ge (tgt := 88) hx hb dS_flood_23 (by decide) (fun c_2 => ?_) (fun c_2 => ?_)
      · skip
        have c_2 : 40 ≤ t := (nI_leI (a := 40) (b := t) (by omega) (by omega)).mp c_2
        refine lv_lload hx hb dS_flood_88 (lv_at hl 3 rfl) ?_
        exact W.lret (v := f) hx hb hr (fun t9 ht9 hW9 => ⟨_, rfl, (by first | (rw [← hR, show 40 - t = 0 by omega]; rfl) | (rw [← hR, bw_fl_x (by omega)])), ht9⟩) (fun q hq => nomatch hq) dS_flood_90
      · skip
        have c_2 : ¬ 40 ≤ t := fun z => c_2 ((nI_leI (a := 40) (b := t) (by omega) (by omega)).mpr z)
        refine lv_iload hx hb dS_flood_26 (lv_at hl 5 rfl) ?_
        refine lv_bipush (v := nI 40) hx hb dS_flood_28 (by decide) ?_
        refine lv_icmp_ge (tgt := 88) hx hb dS_flood_30 (by decide) (fun c_3 => ?_) (fun c_3 => ?_)
        · skip
          have c_3 : 40 ≤ (bw_lo o) := (nI_leI (a := 40) (b := (bw_lo o)) (by omega) (by omega)).mp c_3
          refine lv_lload hx hb dS_flood_88 (lv_at hl 3 rfl) ?_
          exact W.lret (v := f) hx hb hr (fun t9 ht9 hW9 => ⟨_, rfl, (by first | (rw [← hR, show 40 - t = 0 by omega]; rfl) | (rw [← hR, bw_fl_x (by omega)])), ht9⟩) (fun q hq => nomatch hq) dS_flood_90
        · skip
          have c_3 : ¬ 40 ≤ (bw_lo o) := fun z => c_3 ((nI_leI (a := 40) (b := (bw_lo o)) (by omega) (by omega)).mpr z)
          refine lv_aload_n hx hb dS_flood_33 rfl (lv_at hl 0 rfl) ?_
          refine va_get (D := (dC, dI)) (ci := 1) (v := .ref a1) (C := RS) (T := TS) (N := 3) hx hb hT inS hown hK hP 0 rfl rfl 0 (by decide) (hT _ hw_42) (fun _ h9 => h9) rfl dS_flood_34 ?_
          refine lv_iload hx hb dS_flood_37 (lv_at hl 5 rfl) ?_
          refine bw_lald hx hb hK hP 1 0 (k := (bw_lo o)) rfl rfl (by omega) (by decide) dS_flood_39 ?_
          refine lv_lload_n hx hb dS_flood_40 rfl (lv_at hl 2 rfl) ?_
          refine lv_land hx hb dS_flood_41 ?_
          refine lv_lload hx hb dS_flood_42 (lv_at hl 3 rfl) ?_
          refine lv_ldc2 (v := (-1)) hx hb hown (hT _ hw_129) dS_flood_44 ?_
          refine lv_lxor hx hb dS_flood_47 ?_
          refine lv_land hx hb dS_flood_48 ?_
          refine lv_lstore (lv' := [(11, .long (((st (bw_lo o)) &&& al) &&& (f ^^^ (-1)))), (0, .ref h), (1, .long fi), (3, .long al), (5, .long f), (7, .long o), (9, .int (nI (bw_lo o))), (10, .int (nI t))]) hx hb dS_flood_49 hl (by decide) rfl (fun ls hl => ?_)
          refine lv_lload hx hb dS_flood_51 (lv_at hl 4 rfl) ?_
          refine lv_lload hx hb dS_flood_53 (lv_at hl 0 rfl) ?_
          refine lv_lor hx hb dS_flood_55 ?_
          refine lv_lstore (lv' := [(5, .long (f ||| (((st (bw_lo o)) &&& al) &&& (f ^^^ (-1))))), (11, .long (((st (bw_lo o)) &&& al) &&& (f ^^^ (-1)))), (0, .ref h), (1, .long fi), (3, .long al), (7, .long o), (9, .int (nI (bw_lo o))), (10, .int (nI t))]) hx hb dS_flood_56 hl (by decide) rfl (fun ls hl => ?_)
          refine lv_lload hx hb dS_flood_58 (lv_at hl 5 rfl) ?_
          refine lv_iload hx hb dS_flood_60 (lv_at hl 6 rfl) ?_
          refine vp_callSl (bw_C (va_runSN (As := [.int (nI (bw_lo o))]) (rest := [.long o]) ⟨hx, hb, hml, hown, hT⟩ (c_bit l (bw_lo o)) ⟨va_cnB 1 hT (bw_gi gn_B_bit) rfl rfl rfl hN.1 (hT _ hw_18) (by decide +kernel) ⟨Nat.le_of_ble_eq_true rfl, Nat.le_of_ble_eq_true rfl⟩, hT _ hw_97, trivial⟩ preEq rfl rfl hl.1 rfl (lv_room (Nat.le_of_ble_eq_true rfl)) dS_flood_62 ⟨Nat.le_of_ble_eq_true rfl, Nat.le_of_ble_eq_true rfl⟩)) (fun r_4 hr_4 => ?_)
          rw [hr_4]; clear hr_4
          refine lv_ldc2 (v := (-1)) hx hb hown (hT _ hw_129) dS_flood_65 ?_
          refine lv_lxor hx hb dS_flood_68 ?_
          refine lv_land hx hb dS_flood_69 ?_
          refine lv_lload hx hb dS_flood_70 (lv_at hl 1 rfl) ?_
          refine lv_lor hx hb dS_flood_72 ?_
          refine lv_lstore (lv' := [(7, .long ((o &&& ((bw_b (bw_lo o)) ^^^ (-1))) ||| (((st (bw_lo o)) &&& al) &&& (f ^^^ (-1))))), (5, .long (f ||| (((st (bw_lo o)) &&& al) &&& (f ^^^ (-1))))), (11, .long (((st (bw_lo o)) &&& al) &&& (f ^^^ (-1)))), (0, .ref h), (1, .long fi), (3, .long al), (9, .int (nI (bw_lo o))), (10, .int (nI t))]) hx hb dS_flood_73 hl (by decide) rfl (fun ls hl => ?_)
          refine lv_lload hx hb dS_flood_75 (lv_at hl 0 rfl) ?_
          refine vp_callSi (bw_C (va_runSN (As := [.long ((o &&& ((bw_b (bw_lo o)) ^^^ (-1))) ||| (((st (bw_lo o)) &&& al) &&& (f ^^^ (-1))))]) (rest := []) ⟨hx, hb, hml, hown, hT⟩ (c_lowest l ((o &&& ((bw_b (bw_lo o)) ^^^ (-1))) ||| (((st (bw_lo o)) &&& al) &&& (f ^^^ (-1))))) ⟨va_cnB 1 hT (bw_gi gn_B_lowest) rfl rfl rfl hN.2.1 (hT _ hw_18) (by decide +kernel) ⟨Nat.le_of_ble_eq_true rfl, Nat.le_of_ble_eq_true rfl⟩, hT _ hw_157, trivial⟩ preEq rfl rfl hl.1 rfl (lv_room (Nat.le_of_ble_eq_true rfl)) dS_flood_77 ⟨Nat.le_of_ble_eq_true rfl, Nat.le_of_ble_eq_true rfl⟩)) (fun r_5 hr_5 => ?_)
          rw [hr_5]; clear hr_5
          refine lv_istore (lv' := [(9, .int (nI (bw_lo ((o &&& ((bw_b (bw_lo o)) ^^^ (-1))) ||| (((st (bw_lo o)) &&& al) &&& (f ^^^ (-1))))))), (7, .long ((o &&& ((bw_b (bw_lo o)) ^^^ (-1))) ||| (((st (bw_lo o)) &&& al) &&& (f ^^^ (-1))))), (5, .long (f ||| (((st (bw_lo o)) &&& al) &&& (f ^^^ (-1))))), (11, .long (((st (bw_lo o)) &&& al) &&& (f ^^^ (-1)))), (0, .ref h), (1, .long fi), (3, .long al), (10, .int (nI t))]) hx hb dS_flood_80 hl (by decide) rfl (fun ls hl => ?_)
          refine lv_iinc (v := nI (t + 1)) (lv' := [(10, .int (nI (t + 1))), (9, .int (nI (bw_lo ((o &&& ((bw_b (bw_lo o)) ^^^ (-1))) ||| (((st (bw_lo o)) &&& al) &&& (f ^^^ (-1))))))), (7, .long ((o &&& ((bw_b (bw_lo o)) ^^^ (-1))) ||| (((st (bw_lo o)) &&& al) &&& (f ^^^ (-1))))), (5, .long (f ||| (((st (bw_lo o)) &&& al) &&& (f ^^^ (-1))))), (11, .long (((st (bw_lo o)) &&& al) &&& (f ^^^ (-1)))), (0, .ref h), (1, .long fi), (3, .long al)]) hx hb dS_flood_82 hl (k := 7) rfl (nI_1 _) (by decide) rfl (fun ls hl => ?_)
          refine lv_goto (tgt := 19) hx hb dS_flood_85 (by decide) ?_
          exact ih_19 (t + 1) (f ||| (((st (bw_lo o)) &&& al) &&& (f ^^^ (-1)))) ((o &&& ((bw_b (bw_lo o)) ^^^ (-1))) ||| (((st (bw_lo o)) &&& al) &&& (f ^^^ (-1)))) (by omega) (by omega) (by rw [← hR, show 40 - t = (40 - (t + 1)) + 1 by omega, bw_fl_s (by omega)]) ls (lv_sub hl [5, 6, 7, 3, 2, 1, 0] rfl)
  exact loop_19 41 0 (fi &&& al) (fi &&& al) (by omega) (by omega) (rfl) ls (lv_sub hl [4, 5, 6, 3, 2, 1, 0] rfl)
end
section
set_option maxHeartbeats 4000000 in
set_option maxRecDepth 100000 in
theorem c_gates (l : Launch) (dC : Nat → ClassId) (dI : Nat → Nat → Nat) (h a1 a2 : Nat) (cL : ClassId) (st gt : Nat → Int64) (cv : Int64) (k : Nat) (hk : k < 40) : Met l yS_gates wsS_gates ({ frames := 2, cells := 0, slots := 0, locals := 42 } : Room) (bw_Ro (dC, dI) [(cL, .long)] [(h, .inr (1, [.ref a1, .ref a2, .long cv])), (a1, .inl (cL, 40, .inr (.inl st))), (a2, .inl (cL, 40, .inr (.inl gt)))] [.ref h, .int (nI k)]) (vp_Sl (fun r => r = bw_gates gt k)) 0 0 (fun _ => False) := by
  refine Met.ofW (cc := cS_gates) (maxL := 5) (ret := (some .long)) (by decide) rfl ?_
  intro p e s m args below meth c s₁ B hml hv
  obtain ⟨rfl, hP, hK, hN⟩ := hv
  have hx := B.exec
  have hb := B.bytes
  have hr := B.returns
  have hts := atoms_spec (ws := wsS_gates) B.pre
  have hT : ∀ w ∈ bwB, w.before _ s = true := fun w h => hts w (List.mem_cons_of_mem _ h)
  have hown : s.vm.findClass RS = some m.cls := findClass_of_methodNamed B.named
  have hlocks := B.notSynchronized
  have hl := lv_entry ([.ref h, .int (nI k)]) (n := 5) (Nat.le_of_ble_eq_true rfl)
  rw [lg_entry_eq]
  generalize (lg_sl ([.ref h, .int (nI k)]) ++ List.replicate (5 - (lg_sl ([.ref h, .int (nI k)])).length) Slot.unset).toArray = ls at hl ⊢
  have hl : lv_has ls 5 [(0, .ref h), (1, .int (nI k))] := hl
  refine lv_lconst (v := 0) hx hb dS_gates_0 (by decide) ?_
  refine lv_lstore_n (lv' := [(2, .long 0), (0, .ref h), (1, .int (nI k))]) hx hb dS_gates_1 rfl hl (by decide) rfl (fun ls hl => ?_)
  refine lv_iconst (v := nI 0) hx hb dS_gates_2 (by decide) ?_
  refine lv_istore (lv' := [(4, .int (nI 0)), (2, .long 0), (0, .ref h), (1, .int (nI k))]) hx hb dS_gates_3 hl (by decide) rfl (fun ls hl => ?_)
  have loop_5 : ∀ (n_5 : Nat) (i : Nat) (acc : Int64), i ≤ 40 → 40 < i + n_5 → acc = bw_F (fun d => bw_m (gt d) k) bw_b 0 i → ∀ (ls : Array Slot), lv_has ls 5 [(0, .ref h), (1, .int (nI k)), (2, .long acc), (4, .int (nI i))] → W p l e (headSpec wsS_gates ({ frames := 2, cells := 0, slots := 0, locals := 42 } : Room)).room s m ([.ref h, .int (nI k)] : List Value).toArray below meth c s.heap [] 0 0 (MQ below (vp_Sl (fun r => r = bw_gates gt k)) ([.ref h, .int (nI k)] : List Value).toArray s 0 0 (fun _ => False)) (F0 m 5 ls []) := by
    intro n_5
    induction n_5 with
    | zero => intro i acc hii hfi ea; exfalso; omega
    | succ n_5 ih_5 =>
      intro i acc hii hfi ea ls hl
      refine lv_iload hx hb dS_gates_5 (lv_at hl 3 rfl) ?_
      refine lv_bipush (v := nI 40) hx hb dS_gates_7 (by decide) ?_
      refine lv_icmp_ge (tgt := 40) hx hb dS_gates_9 (by decide) (fun c_1 => ?_) (fun c_1 => ?_)
      · skip
        have c_1 : 40 ≤ i := (nI_leI (a := 40) (b := i) (by omega) (by omega)).mp c_1
        refine lv_lload_n hx hb dS_gates_40 rfl (lv_at hl 2 rfl) ?_
        exact W.lret (v := acc) hx hb hr (fun t9 ht9 hW9 => ⟨_, rfl, (by rw [ea, show i = 40 by omega]; rfl), ht9⟩) (fun q hq => nomatch hq) dS_gates_41
      · skip
        have c_1 : ¬ 40 ≤ i := fun z => c_1 ((nI_leI (a := 40) (b := i) (by omega) (by omega)).mpr z)
        refine lv_aload_n hx hb dS_gates_12 rfl (lv_at hl 0 rfl) ?_
        refine va_get (D := (dC, dI)) (ci := 1) (v := .ref a2) (C := RS) (T := TS) (N := 3) hx hb hT inS hown hK hP 0 rfl rfl 1 (by decide) (hT _ hw_43) (fun _ h9 => h9) rfl dS_gates_13 ?_
        refine lv_iload hx hb dS_gates_16 (lv_at hl 3 rfl) ?_
        refine bw_lald hx hb hK hP 2 0 (k := i) rfl rfl (by omega) (by decide) dS_gates_18 ?_
        refine lv_iload_n hx hb dS_gates_19 rfl (lv_at hl 1 rfl) ?_
        refine vp_callSi (bw_C (va_runSN (As := [.long (gt i), .int (nI k)]) (rest := []) ⟨hx, hb, hml, hown, hT⟩ (c_has l (gt i) k (by omega)) ⟨va_cnB 2 hT (bw_gi gn_B_has) rfl rfl rfl hN.2.2.1 (hT _ hw_18) (by decide +kernel) ⟨Nat.le_of_ble_eq_true rfl, Nat.le_of_ble_eq_true rfl⟩, hT _ hw_94, trivial⟩ preEq rfl rfl hl.1 rfl (lv_room (Nat.le_of_ble_eq_true rfl)) dS_gates_20 ⟨Nat.le_of_ble_eq_true rfl, Nat.le_of_ble_eq_true rfl⟩)) (fun r_2 hr_2 => ?_)
        rw [hr_2]; clear hr_2
        refine lv_if_eq (tgt := 34) hx hb dS_gates_23 (by decide) (fun c_3 => ?_) (fun c_3 => ?_)
        · skip
          have c_3 := bw_i0.mp c_3
          refine lv_iinc (v := nI (i + 1)) (lv' := [(4, .int (nI (i + 1))), (0, .ref h), (1, .int (nI k)), (2, .long acc)]) hx hb dS_gates_34 hl (k := 3) rfl (nI_1 _) (by decide) rfl (fun ls hl => ?_)
          refine lv_goto (tgt := 5) hx hb dS_gates_37 (by decide) ?_
          exact ih_5 (i + 1) acc (by omega) (by omega) (by first | (rw [bw_F_t (c := fun d => bw_m (gt d) k) (n := i) c_3, ← ea]; done) | (rw [bw_F_f (c := fun d => bw_m (gt d) k) (n := i) c_3, ← ea]; done)) ls (lv_sub hl [1, 2, 3, 0] rfl)
        · skip
          have c_3 := bw_in0 c_3
          refine lv_lload_n hx hb dS_gates_26 rfl (lv_at hl 2 rfl) ?_
          refine lv_iload hx hb dS_gates_27 (lv_at hl 3 rfl) ?_
          refine vp_callSl (bw_C (va_runSN (As := [.int (nI i)]) (rest := [.long acc]) ⟨hx, hb, hml, hown, hT⟩ (c_bit l i) ⟨va_cnB 1 hT (bw_gi gn_B_bit) rfl rfl rfl hN.1 (hT _ hw_18) (by decide +kernel) ⟨Nat.le_of_ble_eq_true rfl, Nat.le_of_ble_eq_true rfl⟩, hT _ hw_97, trivial⟩ preEq rfl rfl hl.1 rfl (lv_room (Nat.le_of_ble_eq_true rfl)) dS_gates_29 ⟨Nat.le_of_ble_eq_true rfl, Nat.le_of_ble_eq_true rfl⟩)) (fun r_4 hr_4 => ?_)
          rw [hr_4]; clear hr_4
          refine lv_lor hx hb dS_gates_32 ?_
          refine lv_lstore_n (lv' := [(2, .long (acc ||| (bw_b i))), (0, .ref h), (1, .int (nI k)), (4, .int (nI i))]) hx hb dS_gates_33 rfl hl (by decide) rfl (fun ls hl => ?_)
          refine lv_iinc (v := nI (i + 1)) (lv' := [(4, .int (nI (i + 1))), (2, .long (acc ||| (bw_b i))), (0, .ref h), (1, .int (nI k))]) hx hb dS_gates_34 hl (k := 3) rfl (nI_1 _) (by decide) rfl (fun ls hl => ?_)
          refine lv_goto (tgt := 5) hx hb dS_gates_37 (by decide) ?_
          exact ih_5 (i + 1) (acc ||| (bw_b i)) (by omega) (by omega) (by first | (rw [bw_F_t (c := fun d => bw_m (gt d) k) (n := i) c_3, ← ea]; done) | (rw [bw_F_f (c := fun d => bw_m (gt d) k) (n := i) c_3, ← ea]; done)) ls (lv_sub hl [2, 3, 1, 0] rfl)
  exact loop_5 41 0 0 (by omega) (by omega) (rfl) ls (lv_sub hl [2, 3, 1, 0] rfl)
set_option maxHeartbeats 4000000 in
set_option maxRecDepth 100000 in
theorem c_nearestGate (l : Launch) (dC : Nat → ClassId) (dI : Nat → Nat → Nat) (h a1 a2 : Nat) (cL : ClassId) (st gt : Nat → Int64) (cv : Int64) (k : Nat) (hk : k < 40) : Met l yS_nearestGate wsS_nearestGate ({ frames := 3, cells := 0, slots := 0, locals := 66 } : Room) (bw_Ro (dC, dI) [(cL, .long)] [(h, .inr (1, [.ref a1, .ref a2, .long cv])), (a1, .inl (cL, 40, .inr (.inl st))), (a2, .inl (cL, 40, .inr (.inl gt)))] [.ref h, .int (nI k)]) (vp_Si (fun r => r = bw_nearA gt k)) 0 0 (fun _ => False) := by
  refine Met.ofW (cc := cS_nearestGate) (maxL := 7) (ret := (some .int)) (by decide) rfl ?_
  intro p e s m args below meth c s₁ B hml hv
  obtain ⟨rfl, hP, hK, hN⟩ := hv
  have hx := B.exec
  have hb := B.bytes
  have hr := B.returns
  have hts := atoms_spec (ws := wsS_nearestGate) B.pre
  have hT : ∀ w ∈ bwB, w.before _ s = true := fun w h => hts w (List.mem_cons_of_mem _ h)
  have hown : s.vm.findClass RS = some m.cls := findClass_of_methodNamed B.named
  have hlocks := B.notSynchronized
  have hl := lv_entry ([.ref h, .int (nI k)]) (n := 7) (Nat.le_of_ble_eq_true rfl)
  rw [lg_entry_eq]
  generalize (lg_sl ([.ref h, .int (nI k)]) ++ List.replicate (7 - (lg_sl ([.ref h, .int (nI k)])).length) Slot.unset).toArray = ls at hl ⊢
  have hl : lv_has ls 7 [(0, .ref h), (1, .int (nI k))] := hl
  refine lv_aload_n hx hb dS_nearestGate_0 rfl (lv_at hl 0 rfl) ?_
  refine lv_iload_n hx hb dS_nearestGate_1 rfl (lv_at hl 1 rfl) ?_
  have hPc := hP
  have hKc := hK
  refine vp_callSl (W.runV (As := [.int (nI k)]) (rest := []) ⟨hx, hb, hml, hown, hT⟩ (c_gates l dC dI h a1 a2 cL st gt cv k (by omega)) (cwV 1 hT g_S_40 rfl rfl rfl (by decide +kernel) ⟨Nat.le_of_ble_eq_true rfl, Nat.le_of_ble_eq_true rfl⟩) (bw_pV hPc hKc hN (ci := 1) (q0 := 0) rfl rfl) rfl rfl hl.1 rfl (lv_room (Nat.le_of_ble_eq_true rfl)) dS_nearestGate_2 ⟨Nat.le_of_ble_eq_true rfl, Nat.le_of_ble_eq_true rfl⟩) (fun r_1 hr_1 => ?_)
  rw [hr_1]; clear hr_1
  refine lv_iload_n hx hb dS_nearestGate_5 rfl (lv_at hl 1 rfl) ?_
  refine vp_callSl (bw_C (va_runSN (As := [.int (nI k)]) (rest := [.long (bw_gates gt k)]) ⟨hx, hb, hml, hown, hT⟩ (c_bit l k) ⟨va_cnB 1 hT (bw_gi gn_B_bit) rfl rfl rfl hN.1 (hT _ hw_18) (by decide +kernel) ⟨Nat.le_of_ble_eq_true rfl, Nat.le_of_ble_eq_true rfl⟩, hT _ hw_97, trivial⟩ preEq rfl rfl hl.1 rfl (lv_room (Nat.le_of_ble_eq_true rfl)) dS_nearestGate_6 ⟨Nat.le_of_ble_eq_true rfl, Nat.le_of_ble_eq_true rfl⟩)) (fun r_2 hr_2 => ?_)
  rw [hr_2]; clear hr_2
  refine lv_ldc2 (v := (-1)) hx hb hown (hT _ hw_129) dS_nearestGate_9 ?_
  refine lv_lxor hx hb dS_nearestGate_12 ?_
  refine lv_land hx hb dS_nearestGate_13 ?_
  refine lv_lstore_n (lv' := [(2, .long ((bw_gates gt k) &&& ((bw_b k) ^^^ (-1)))), (0, .ref h), (1, .int (nI k))]) hx hb dS_nearestGate_14 rfl hl (by decide) rfl (fun ls hl => ?_)
  refine lv_lload_n hx hb dS_nearestGate_15 rfl (lv_at hl 0 rfl) ?_
  refine lv_lstore (lv' := [(4, .long ((bw_gates gt k) &&& ((bw_b k) ^^^ (-1)))), (2, .long ((bw_gates gt k) &&& ((bw_b k) ^^^ (-1)))), (0, .ref h), (1, .int (nI k))]) hx hb dS_nearestGate_16 hl (by decide) rfl (fun ls hl => ?_)
  refine lv_iconst (v := nI 0) hx hb dS_nearestGate_18 (by decide) ?_
  refine lv_istore (lv' := [(6, .int (nI 0)), (4, .long ((bw_gates gt k) &&& ((bw_b k) ^^^ (-1)))), (2, .long ((bw_gates gt k) &&& ((bw_b k) ^^^ (-1)))), (0, .ref h), (1, .int (nI k))]) hx hb dS_nearestGate_19 hl (by decide) rfl (fun ls hl => ?_)
  have loop_21 : ∀ (n_21 : Nat) (i : Nat) (acc : Int64), i ≤ 40 → 40 < i + n_21 → acc = bw_A (bw_m (bw_gates gt k &&& (bw_b k ^^^ (-1)))) gt (bw_gates gt k &&& (bw_b k ^^^ (-1))) i → ∀ (ls : Array Slot), lv_has ls 7 [(0, .ref h), (1, .int (nI k)), (2, .long (bw_gates gt k &&& (bw_b k ^^^ (-1)))), (4, .long acc), (6, .int (nI i))] → W p l e (headSpec wsS_nearestGate ({ frames := 3, cells := 0, slots := 0, locals := 66 } : Room)).room s m ([.ref h, .int (nI k)] : List Value).toArray below meth c s.heap [] 0 0 (MQ below (vp_Si (fun r => r = bw_nearA gt k)) ([.ref h, .int (nI k)] : List Value).toArray s 0 0 (fun _ => False)) (F0 m 21 ls []) := by
    intro n_21
    induction n_21 with
    | zero => intro i acc hii hfi ea; exfalso; omega
    | succ n_21 ih_21 =>
      intro i acc hii hfi ea ls hl
      refine lv_iload hx hb dS_nearestGate_21 (lv_at hl 4 rfl) ?_
      refine lv_bipush (v := nI 40) hx hb dS_nearestGate_23 (by decide) ?_
      refine lv_icmp_ge (tgt := 55) hx hb dS_nearestGate_25 (by decide) (fun c_3 => ?_) (fun c_3 => ?_)
      · skip
        have c_3 : 40 ≤ i := (nI_leI (a := 40) (b := i) (by omega) (by omega)).mp c_3
        refine lv_lload hx hb dS_nearestGate_55 (lv_at hl 3 rfl) ?_
        refine lv_lconst (v := 0) hx hb dS_nearestGate_57 (by decide) ?_
        refine W.lcmp hx hb dS_nearestGate_58 ?_
        refine lv_if_ne (tgt := 66) hx hb dS_nearestGate_59 (by decide) (fun c_4 => ?_) (fun c_4 => ?_)
        · skip
          have c_4 := fun z => c_4 (bw_cmp0.mpr z)
          refine lv_lload hx hb dS_nearestGate_66 (lv_at hl 3 rfl) ?_
          refine vp_callSi (bw_C (va_runSN (As := [.long acc]) (rest := []) ⟨hx, hb, hml, hown, hT⟩ (c_lowest l acc) ⟨va_cnB 1 hT (bw_gi gn_B_lowest) rfl rfl rfl hN.2.1 (hT _ hw_18) (by decide +kernel) ⟨Nat.le_of_ble_eq_true rfl, Nat.le_of_ble_eq_true rfl⟩, hT _ hw_157, trivial⟩ preEq rfl rfl hl.1 rfl (lv_room (Nat.le_of_ble_eq_true rfl)) dS_nearestGate_68 ⟨Nat.le_of_ble_eq_true rfl, Nat.le_of_ble_eq_true rfl⟩)) (fun r_5 hr_5 => ?_)
          rw [hr_5]; clear hr_5
          exact W.iret (v := nI (bw_lo acc)) hx hb hr (fun t9 ht9 hW9 => ⟨_, rfl, (by first | exact bw_nearA_0 ea (by omega) c_4 | exact bw_nearA_1 ea (by omega) c_4), ht9⟩) (fun q hq => nomatch hq) dS_nearestGate_71
        · skip
          have c_4 := bw_cmp0.mp c_4
          refine lv_iconst (v := -1) hx hb dS_nearestGate_62 (by decide) ?_
          refine lv_goto (tgt := 71) hx hb dS_nearestGate_63 (by decide) ?_
          exact W.iret (v := -1) hx hb hr (fun t9 ht9 hW9 => ⟨_, rfl, (by first | exact bw_nearA_0 ea (by omega) c_4 | exact bw_nearA_1 ea (by omega) c_4), ht9⟩) (fun q hq => nomatch hq) dS_nearestGate_71
      · skip
        have c_3 : ¬ 40 ≤ i := fun z => c_3 ((nI_leI (a := 40) (b := i) (by omega) (by omega)).mpr z)
        refine lv_lload_n hx hb dS_nearestGate_28 rfl (lv_at hl 2 rfl) ?_
        refine lv_iload hx hb dS_nearestGate_29 (lv_at hl 4 rfl) ?_
        refine vp_callSi (bw_C (va_runSN (As := [.long (bw_gates gt k &&& (bw_b k ^^^ (-1))), .int (nI i)]) (rest := []) ⟨hx, hb, hml, hown, hT⟩ (c_has l (bw_gates gt k &&& (bw_b k ^^^ (-1))) i (by omega)) ⟨va_cnB 2 hT (bw_gi gn_B_has) rfl rfl rfl hN.2.2.1 (hT _ hw_18) (by decide +kernel) ⟨Nat.le_of_ble_eq_true rfl, Nat.le_of_ble_eq_true rfl⟩, hT _ hw_94, trivial⟩ preEq rfl rfl hl.1 rfl (lv_room (Nat.le_of_ble_eq_true rfl)) dS_nearestGate_31 ⟨Nat.le_of_ble_eq_true rfl, Nat.le_of_ble_eq_true rfl⟩)) (fun r_6 hr_6 => ?_)
        rw [hr_6]; clear hr_6
        refine lv_if_eq (tgt := 49) hx hb dS_nearestGate_34 (by decide) (fun c_7 => ?_) (fun c_7 => ?_)
        · skip
          have c_7 := bw_i0.mp c_7
          refine lv_iinc (v := nI (i + 1)) (lv' := [(6, .int (nI (i + 1))), (0, .ref h), (1, .int (nI k)), (2, .long (bw_gates gt k &&& (bw_b k ^^^ (-1)))), (4, .long acc)]) hx hb dS_nearestGate_49 hl (k := 4) rfl (nI_1 _) (by decide) rfl (fun ls hl => ?_)
          refine lv_goto (tgt := 21) hx hb dS_nearestGate_52 (by decide) ?_
          exact ih_21 (i + 1) acc (by omega) (by omega) (by first | (rw [bw_A_t (c := bw_m (bw_gates gt k &&& (bw_b k ^^^ (-1)))) (n := i) c_7, ← ea]; done) | (rw [bw_A_f (c := bw_m (bw_gates gt k &&& (bw_b k ^^^ (-1)))) (n := i) c_7, ← ea]; done)) ls (lv_sub hl [1, 2, 3, 4, 0] rfl)
        · skip
          have c_7 := bw_in0 c_7
          refine lv_lload hx hb dS_nearestGate_37 (lv_at hl 3 rfl) ?_
          refine lv_aload_n hx hb dS_nearestGate_39 rfl (lv_at hl 0 rfl) ?_
          refine va_get (D := (dC, dI)) (ci := 1) (v := .ref a2) (C := RS) (T := TS) (N := 3) hx hb hT inS hown hK hP 0 rfl rfl 1 (by decide) (hT _ hw_43) (fun _ h9 => h9) rfl dS_nearestGate_40 ?_
          refine lv_iload hx hb dS_nearestGate_43 (lv_at hl 4 rfl) ?_
          refine bw_lald hx hb hK hP 2 0 (k := i) rfl rfl (by omega) (by decide) dS_nearestGate_45 ?_
          refine lv_land hx hb dS_nearestGate_46 ?_
          refine lv_lstore (lv' := [(4, .long (acc &&& (gt i))), (0, .ref h), (1, .int (nI k)), (2, .long (bw_gates gt k &&& (bw_b k ^^^ (-1)))), (6, .int (nI i))]) hx hb dS_nearestGate_47 hl (by decide) rfl (fun ls hl => ?_)
          refine lv_iinc (v := nI (i + 1)) (lv' := [(6, .int (nI (i + 1))), (4, .long (acc &&& (gt i))), (0, .ref h), (1, .int (nI k)), (2, .long (bw_gates gt k &&& (bw_b k ^^^ (-1))))]) hx hb dS_nearestGate_49 hl (k := 4) rfl (nI_1 _) (by decide) rfl (fun ls hl => ?_)
          refine lv_goto (tgt := 21) hx hb dS_nearestGate_52 (by decide) ?_
          exact ih_21 (i + 1) (acc &&& (gt i)) (by omega) (by omega) (by first | (rw [bw_A_t (c := bw_m (bw_gates gt k &&& (bw_b k ^^^ (-1)))) (n := i) c_7, ← ea]; done) | (rw [bw_A_f (c := bw_m (bw_gates gt k &&& (bw_b k ^^^ (-1)))) (n := i) c_7, ← ea]; done)) ls (lv_sub hl [2, 3, 4, 1, 0] rfl)
  exact loop_21 41 0 (bw_gates gt k &&& (bw_b k ^^^ (-1))) (by omega) (by omega) (rfl) ls (lv_sub hl [3, 4, 2, 1, 0] rfl)
set_option maxHeartbeats 4000000 in
set_option maxRecDepth 100000 in
theorem c_rim (l : Launch) (dC : Nat → ClassId) (dI : Nat → Nat → Nat) (h a1 a2 : Nat) (cL : ClassId) (st gt : Nat → Int64) (cv : Int64) (k : Nat) (hk : k < 40) : Met l yS_rim wsS_rim ({ frames := 2, cells := 0, slots := 0, locals := 42 } : Room) (bw_Ro (dC, dI) [(cL, .long)] [(h, .inr (1, [.ref a1, .ref a2, .long cv])), (a1, .inl (cL, 40, .inr (.inl st))), (a2, .inl (cL, 40, .inr (.inl gt)))] [.ref h, .int (nI k)]) (vp_Sl (fun r => r = bw_rim st gt cv k)) 0 0 (fun _ => False) := by
  refine Met.ofW (cc := cS_rim) (maxL := 5) (ret := (some .long)) (by decide) rfl ?_
  intro p e s m args below meth c s₁ B hml hv
  obtain ⟨rfl, hP, hK, hN⟩ := hv
  have hx := B.exec
  have hb := B.bytes
  have hr := B.returns
  have hts := atoms_spec (ws := wsS_rim) B.pre
  have hT : ∀ w ∈ bwB, w.before _ s = true := fun w h => hts w (List.mem_cons_of_mem _ h)
  have hown : s.vm.findClass RS = some m.cls := findClass_of_methodNamed B.named
  have hlocks := B.notSynchronized
  have hl := lv_entry ([.ref h, .int (nI k)]) (n := 5) (Nat.le_of_ble_eq_true rfl)
  rw [lg_entry_eq]
  generalize (lg_sl ([.ref h, .int (nI k)]) ++ List.replicate (5 - (lg_sl ([.ref h, .int (nI k)])).length) Slot.unset).toArray = ls at hl ⊢
  have hl : lv_has ls 5 [(0, .ref h), (1, .int (nI k))] := hl
  refine lv_lconst (v := 0) hx hb dS_rim_0 (by decide) ?_
  refine lv_lstore_n (lv' := [(2, .long 0), (0, .ref h), (1, .int (nI k))]) hx hb dS_rim_1 rfl hl (by decide) rfl (fun ls hl => ?_)
  refine lv_iconst (v := nI 0) hx hb dS_rim_2 (by decide) ?_
  refine lv_istore (lv' := [(4, .int (nI 0)), (2, .long 0), (0, .ref h), (1, .int (nI k))]) hx hb dS_rim_3 hl (by decide) rfl (fun ls hl => ?_)
  have loop_5 : ∀ (n_5 : Nat) (i : Nat) (acc : Int64), i ≤ 40 → 40 < i + n_5 → acc = bw_F (bw_m (gt k)) st 0 i → ∀ (ls : Array Slot), lv_has ls 5 [(0, .ref h), (1, .int (nI k)), (2, .long acc), (4, .int (nI i))] → W p l e (headSpec wsS_rim ({ frames := 2, cells := 0, slots := 0, locals := 42 } : Room)).room s m ([.ref h, .int (nI k)] : List Value).toArray below meth c s.heap [] 0 0 (MQ below (vp_Sl (fun r => r = bw_rim st gt cv k)) ([.ref h, .int (nI k)] : List Value).toArray s 0 0 (fun _ => False)) (F0 m 5 ls []) := by
    intro n_5
    induction n_5 with
    | zero => intro i acc hii hfi ea; exfalso; omega
    | succ n_5 ih_5 =>
      intro i acc hii hfi ea ls hl
      refine lv_iload hx hb dS_rim_5 (lv_at hl 3 rfl) ?_
      refine lv_bipush (v := nI 40) hx hb dS_rim_7 (by decide) ?_
      refine lv_icmp_ge (tgt := 42) hx hb dS_rim_9 (by decide) (fun c_1 => ?_) (fun c_1 => ?_)
      · skip
        have c_1 : 40 ≤ i := (nI_leI (a := 40) (b := i) (by omega) (by omega)).mp c_1
        refine lv_lload_n hx hb dS_rim_42 rfl (lv_at hl 2 rfl) ?_
        refine lv_aload_n hx hb dS_rim_43 rfl (lv_at hl 0 rfl) ?_
        refine va_get (D := (dC, dI)) (ci := 1) (v := .long cv) (C := RS) (T := TS) (N := 3) hx hb hT inS hown hK hP 0 rfl rfl 2 (by decide) (hT _ hw_44) (fun _ h9 => h9) rfl dS_rim_44 ?_
        refine lv_land hx hb dS_rim_47 ?_
        refine lv_aload_n hx hb dS_rim_48 rfl (lv_at hl 0 rfl) ?_
        refine va_get (D := (dC, dI)) (ci := 1) (v := .ref a2) (C := RS) (T := TS) (N := 3) hx hb hT inS hown hK hP 0 rfl rfl 1 (by decide) (hT _ hw_43) (fun _ h9 => h9) rfl dS_rim_49 ?_
        refine lv_iload_n hx hb dS_rim_52 rfl (lv_at hl 1 rfl) ?_
        refine bw_lald hx hb hK hP 2 0 (k := k) rfl rfl (by omega) (by decide) dS_rim_53 ?_
        refine lv_iload_n hx hb dS_rim_54 rfl (lv_at hl 1 rfl) ?_
        refine vp_callSl (bw_C (va_runSN (As := [.int (nI k)]) (rest := [.long (gt k), .long (acc &&& cv)]) ⟨hx, hb, hml, hown, hT⟩ (c_bit l k) ⟨va_cnB 1 hT (bw_gi gn_B_bit) rfl rfl rfl hN.1 (hT _ hw_18) (by decide +kernel) ⟨Nat.le_of_ble_eq_true rfl, Nat.le_of_ble_eq_true rfl⟩, hT _ hw_97, trivial⟩ preEq rfl rfl hl.1 rfl (lv_room (Nat.le_of_ble_eq_true rfl)) dS_rim_55 ⟨Nat.le_of_ble_eq_true rfl, Nat.le_of_ble_eq_true rfl⟩)) (fun r_2 hr_2 => ?_)
        rw [hr_2]; clear hr_2
        refine lv_ldc2 (v := (-1)) hx hb hown (hT _ hw_129) dS_rim_58 ?_
        refine lv_lxor hx hb dS_rim_61 ?_
        refine lv_land hx hb dS_rim_62 ?_
        refine lv_ldc2 (v := (-1)) hx hb hown (hT _ hw_129) dS_rim_63 ?_
        refine lv_lxor hx hb dS_rim_66 ?_
        refine lv_land hx hb dS_rim_67 ?_
        exact W.lret (v := (acc &&& cv) &&& (((gt k) &&& ((bw_b k) ^^^ (-1))) ^^^ (-1))) hx hb hr (fun t9 ht9 hW9 => ⟨_, rfl, (by rw [ea, show i = 40 by omega]; rfl), ht9⟩) (fun q hq => nomatch hq) dS_rim_68
      · skip
        have c_1 : ¬ 40 ≤ i := fun z => c_1 ((nI_leI (a := 40) (b := i) (by omega) (by omega)).mpr z)
        refine lv_aload_n hx hb dS_rim_12 rfl (lv_at hl 0 rfl) ?_
        refine va_get (D := (dC, dI)) (ci := 1) (v := .ref a2) (C := RS) (T := TS) (N := 3) hx hb hT inS hown hK hP 0 rfl rfl 1 (by decide) (hT _ hw_43) (fun _ h9 => h9) rfl dS_rim_13 ?_
        refine lv_iload_n hx hb dS_rim_16 rfl (lv_at hl 1 rfl) ?_
        refine bw_lald hx hb hK hP 2 0 (k := k) rfl rfl (by omega) (by decide) dS_rim_17 ?_
        refine lv_iload hx hb dS_rim_18 (lv_at hl 3 rfl) ?_
        refine vp_callSi (bw_C (va_runSN (As := [.long (gt k), .int (nI i)]) (rest := []) ⟨hx, hb, hml, hown, hT⟩ (c_has l (gt k) i (by omega)) ⟨va_cnB 2 hT (bw_gi gn_B_has) rfl rfl rfl hN.2.2.1 (hT _ hw_18) (by decide +kernel) ⟨Nat.le_of_ble_eq_true rfl, Nat.le_of_ble_eq_true rfl⟩, hT _ hw_94, trivial⟩ preEq rfl rfl hl.1 rfl (lv_room (Nat.le_of_ble_eq_true rfl)) dS_rim_20 ⟨Nat.le_of_ble_eq_true rfl, Nat.le_of_ble_eq_true rfl⟩)) (fun r_3 hr_3 => ?_)
        rw [hr_3]; clear hr_3
        refine lv_if_eq (tgt := 36) hx hb dS_rim_23 (by decide) (fun c_4 => ?_) (fun c_4 => ?_)
        · skip
          have c_4 := bw_i0.mp c_4
          refine lv_iinc (v := nI (i + 1)) (lv' := [(4, .int (nI (i + 1))), (0, .ref h), (1, .int (nI k)), (2, .long acc)]) hx hb dS_rim_36 hl (k := 3) rfl (nI_1 _) (by decide) rfl (fun ls hl => ?_)
          refine lv_goto (tgt := 5) hx hb dS_rim_39 (by decide) ?_
          exact ih_5 (i + 1) acc (by omega) (by omega) (by first | (rw [bw_F_t (c := bw_m (gt k)) (n := i) c_4, ← ea]; done) | (rw [bw_F_f (c := bw_m (gt k)) (n := i) c_4, ← ea]; done)) ls (lv_sub hl [1, 2, 3, 0] rfl)
        · skip
          have c_4 := bw_in0 c_4
          refine lv_lload_n hx hb dS_rim_26 rfl (lv_at hl 2 rfl) ?_
          refine lv_aload_n hx hb dS_rim_27 rfl (lv_at hl 0 rfl) ?_
          refine va_get (D := (dC, dI)) (ci := 1) (v := .ref a1) (C := RS) (T := TS) (N := 3) hx hb hT inS hown hK hP 0 rfl rfl 0 (by decide) (hT _ hw_42) (fun _ h9 => h9) rfl dS_rim_28 ?_
          refine lv_iload hx hb dS_rim_31 (lv_at hl 3 rfl) ?_
          refine bw_lald hx hb hK hP 1 0 (k := i) rfl rfl (by omega) (by decide) dS_rim_33 ?_
          refine lv_lor hx hb dS_rim_34 ?_
          refine lv_lstore_n (lv' := [(2, .long (acc ||| (st i))), (0, .ref h), (1, .int (nI k)), (4, .int (nI i))]) hx hb dS_rim_35 rfl hl (by decide) rfl (fun ls hl => ?_)
          refine lv_iinc (v := nI (i + 1)) (lv' := [(4, .int (nI (i + 1))), (2, .long (acc ||| (st i))), (0, .ref h), (1, .int (nI k))]) hx hb dS_rim_36 hl (k := 3) rfl (nI_1 _) (by decide) rfl (fun ls hl => ?_)
          refine lv_goto (tgt := 5) hx hb dS_rim_39 (by decide) ?_
          exact ih_5 (i + 1) (acc ||| (st i)) (by omega) (by omega) (by first | (rw [bw_F_t (c := bw_m (gt k)) (n := i) c_4, ← ea]; done) | (rw [bw_F_f (c := bw_m (gt k)) (n := i) c_4, ← ea]; done)) ls (lv_sub hl [2, 3, 1, 0] rfl)
  exact loop_5 41 0 0 (by omega) (by omega) (rfl) ls (lv_sub hl [2, 3, 1, 0] rfl)
set_option maxHeartbeats 4000000 in
set_option maxRecDepth 100000 in
theorem c_blocksOf (l : Launch) (dC : Nat → ClassId) (dI : Nat → Nat → Nat) (h a1 : Nat) (cL : ClassId) (bl : Nat → Int64) (k : Nat) (hk : k < 40) : Met l yR_blocksOf wsR_blocksOf ({ frames := 0, cells := 0, slots := 0, locals := 0 } : Room) (bw_Ro (dC, dI) [(cL, .long)] [(h, .inr (0, [.ref a1])), (a1, .inl (cL, 40, .inr (.inl bl)))] [.ref h, .int (nI k)]) (vp_Sl (fun r => r = bl k)) 0 0 (fun _ => False) := by
  refine Met.ofW (cc := cR_blocksOf) (maxL := 2) (ret := (some .long)) (by decide) rfl ?_
  intro p e s m args below meth c s₁ B hml hv
  obtain ⟨rfl, hP, hK, hN⟩ := hv
  have hx := B.exec
  have hb := B.bytes
  have hr := B.returns
  have hts := atoms_spec (ws := wsR_blocksOf) B.pre
  have hT : ∀ w ∈ bwB, w.before _ s = true := fun w h => hts w (List.mem_cons_of_mem _ h)
  have hown : s.vm.findClass RR = some m.cls := findClass_of_methodNamed B.named
  have hlocks := B.notSynchronized
  have hl := lv_entry ([.ref h, .int (nI k)]) (n := 2) (Nat.le_of_ble_eq_true rfl)
  rw [lg_entry_eq]
  generalize (lg_sl ([.ref h, .int (nI k)]) ++ List.replicate (2 - (lg_sl ([.ref h, .int (nI k)])).length) Slot.unset).toArray = ls at hl ⊢
  have hl : lv_has ls 2 [(0, .ref h), (1, .int (nI k))] := hl
  refine lv_aload_n hx hb dR_blocksOf_0 rfl (lv_at hl 0 rfl) ?_
  refine va_get (D := (dC, dI)) (ci := 0) (v := .ref a1) (C := RR) (T := TR) (N := 1) hx hb hT inR hown hK hP 0 rfl rfl 0 (by decide) (hT _ hw_60) (fun _ h9 => h9) rfl dR_blocksOf_1 ?_
  refine lv_iload_n hx hb dR_blocksOf_4 rfl (lv_at hl 1 rfl) ?_
  refine bw_lald hx hb hK hP 1 0 (k := k) rfl rfl (by omega) (by decide) dR_blocksOf_5 ?_
  exact W.lret (v := bl k) hx hb hr (fun t9 ht9 hW9 => ⟨_, rfl, rfl, ht9⟩) (fun q hq => nomatch hq) dR_blocksOf_6
set_option maxHeartbeats 4000000 in
set_option maxRecDepth 100000 in
theorem c_number (l : Launch) (dC : Nat → ClassId) (dI : Nat → Nat → Nat) (h a1 : Nat) (cL : ClassId) (bl : Nat → Int64) : Met l yR_number wsR_number ({ frames := 0, cells := 0, slots := 0, locals := 0 } : Room) (bw_Ro (dC, dI) [(cL, .long)] [(h, .inr (0, [.ref a1])), (a1, .inl (cL, 40, .inr (.inl bl)))] [.ref h]) (vp_Si (fun r => r = nI (bw_N (fun h => !decide (bl h = 0)) 40))) 0 0 (fun _ => False) := by
  refine Met.ofW (cc := cR_number) (maxL := 3) (ret := (some .int)) (by decide) rfl ?_
  intro p e s m args below meth c s₁ B hml hv
  obtain ⟨rfl, hP, hK, hN⟩ := hv
  have hx := B.exec
  have hb := B.bytes
  have hr := B.returns
  have hts := atoms_spec (ws := wsR_number) B.pre
  have hT : ∀ w ∈ bwB, w.before _ s = true := fun w h => hts w (List.mem_cons_of_mem _ h)
  have hown : s.vm.findClass RR = some m.cls := findClass_of_methodNamed B.named
  have hlocks := B.notSynchronized
  have hl := lv_entry ([.ref h]) (n := 3) (Nat.le_of_ble_eq_true rfl)
  rw [lg_entry_eq]
  generalize (lg_sl ([.ref h]) ++ List.replicate (3 - (lg_sl ([.ref h])).length) Slot.unset).toArray = ls at hl ⊢
  have hl : lv_has ls 3 [(0, .ref h)] := hl
  refine lv_iconst (v := nI 0) hx hb dR_number_0 (by decide) ?_
  refine lv_istore_n (lv' := [(1, .int (nI 0)), (0, .ref h)]) hx hb dR_number_1 rfl hl (by decide) rfl (fun ls hl => ?_)
  refine lv_iconst (v := nI 0) hx hb dR_number_2 (by decide) ?_
  refine lv_istore_n (lv' := [(2, .int (nI 0)), (1, .int (nI 0)), (0, .ref h)]) hx hb dR_number_3 rfl hl (by decide) rfl (fun ls hl => ?_)
  have loop_4 : ∀ (n_4 : Nat) (i : Nat) (n : Nat), i ≤ 40 → 40 < i + n_4 → n = bw_N (fun h => !decide (bl h = 0)) i → ∀ (ls : Array Slot), lv_has ls 3 [(0, .ref h), (1, .int (nI n)), (2, .int (nI i))] → W p l e (headSpec wsR_number ({ frames := 0, cells := 0, slots := 0, locals := 0 } : Room)).room s m ([.ref h] : List Value).toArray below meth c s.heap [] 0 0 (MQ below (vp_Si (fun r => r = nI (bw_N (fun h => !decide (bl h = 0)) 40))) ([.ref h] : List Value).toArray s 0 0 (fun _ => False)) (F0 m 4 ls []) := by
    intro n_4
    induction n_4 with
    | zero => intro i n hii hfi en; exfalso; omega
    | succ n_4 ih_4 =>
      intro i n hii hfi en ls hl
      refine lv_iload_n hx hb dR_number_4 rfl (lv_at hl 2 rfl) ?_
      refine lv_bipush (v := nI 40) hx hb dR_number_5 (by decide) ?_
      refine lv_icmp_ge (tgt := 30) hx hb dR_number_7 (by decide) (fun c_1 => ?_) (fun c_1 => ?_)
      · skip
        have c_1 : 40 ≤ i := (nI_leI (a := 40) (b := i) (by omega) (by omega)).mp c_1
        refine lv_iload_n hx hb dR_number_30 rfl (lv_at hl 1 rfl) ?_
        exact W.iret (v := nI n) hx hb hr (fun t9 ht9 hW9 => ⟨_, rfl, (by rw [en, show i = 40 by omega]), ht9⟩) (fun q hq => nomatch hq) dR_number_31
      · skip
        have c_1 : ¬ 40 ≤ i := fun z => c_1 ((nI_leI (a := 40) (b := i) (by omega) (by omega)).mpr z)
        refine lv_aload_n hx hb dR_number_10 rfl (lv_at hl 0 rfl) ?_
        refine va_get (D := (dC, dI)) (ci := 0) (v := .ref a1) (C := RR) (T := TR) (N := 1) hx hb hT inR hown hK hP 0 rfl rfl 0 (by decide) (hT _ hw_60) (fun _ h9 => h9) rfl dR_number_11 ?_
        refine lv_iload_n hx hb dR_number_14 rfl (lv_at hl 2 rfl) ?_
        refine bw_lald hx hb hK hP 1 0 (k := i) rfl rfl (by omega) (by decide) dR_number_15 ?_
        refine lv_lconst (v := 0) hx hb dR_number_16 (by decide) ?_
        refine W.lcmp hx hb dR_number_17 ?_
        refine lv_if_eq (tgt := 24) hx hb dR_number_18 (by decide) (fun c_2 => ?_) (fun c_2 => ?_)
        · skip
          have c_2 := bw_cmp0.mp c_2
          refine lv_iinc (v := nI (i + 1)) (lv' := [(2, .int (nI (i + 1))), (0, .ref h), (1, .int (nI n))]) hx hb dR_number_24 hl (k := 2) rfl (nI_1 _) (by decide) rfl (fun ls hl => ?_)
          refine lv_goto (tgt := 4) hx hb dR_number_27 (by decide) ?_
          exact ih_4 (i + 1) n (by omega) (by omega) (by first | (rw [bw_N_t (c := fun h => !decide (bl h = 0)) (n := i) (bw_nzT c_2), ← en]; done) | (rw [bw_N_f (c := fun h => !decide (bl h = 0)) (n := i) (bw_nzF c_2), ← en]; done)) ls (lv_sub hl [1, 2, 0] rfl)
        · skip
          have c_2 := fun z => c_2 (bw_cmp0.mpr z)
          refine lv_iinc (v := nI (n + 1)) (lv' := [(1, .int (nI (n + 1))), (0, .ref h), (2, .int (nI i))]) hx hb dR_number_21 hl (k := 1) rfl (nI_1 _) (by decide) rfl (fun ls hl => ?_)
          refine lv_iinc (v := nI (i + 1)) (lv' := [(2, .int (nI (i + 1))), (1, .int (nI (n + 1))), (0, .ref h)]) hx hb dR_number_24 hl (k := 2) rfl (nI_1 _) (by decide) rfl (fun ls hl => ?_)
          refine lv_goto (tgt := 4) hx hb dR_number_27 (by decide) ?_
          exact ih_4 (i + 1) (n + 1) (by omega) (by omega) (by first | (rw [bw_N_t (c := fun h => !decide (bl h = 0)) (n := i) (bw_nzT c_2), ← en]; done) | (rw [bw_N_f (c := fun h => !decide (bl h = 0)) (n := i) (bw_nzF c_2), ← en]; done)) ls (lv_sub hl [2, 1, 0] rfl)
  exact loop_4 41 0 0 (by omega) (by omega) (rfl) ls (lv_sub hl [2, 1, 0] rfl)
set_option maxHeartbeats 4000000 in
set_option maxRecDepth 100000 in
theorem c_numberAround (l : Launch) (dC : Nat → ClassId) (dI : Nat → Nat → Nat) (h a1 : Nat) (cL : ClassId) (bl : Nat → Int64) (k : Nat) (hk : k < 40) : Met l yR_numberAround wsR_numberAround ({ frames := 2, cells := 0, slots := 0, locals := 42 } : Room) (bw_Ro (dC, dI) [(cL, .long)] [(h, .inr (0, [.ref a1])), (a1, .inl (cL, 40, .inr (.inl bl)))] [.ref h, .int (nI k)]) (vp_Si (fun r => r = nI (bw_N (fun h => bw_m (bl h) k) 40))) 0 0 (fun _ => False) := by
  refine Met.ofW (cc := cR_numberAround) (maxL := 4) (ret := (some .int)) (by decide) rfl ?_
  intro p e s m args below meth c s₁ B hml hv
  obtain ⟨rfl, hP, hK, hN⟩ := hv
  have hx := B.exec
  have hb := B.bytes
  have hr := B.returns
  have hts := atoms_spec (ws := wsR_numberAround) B.pre
  have hT : ∀ w ∈ bwB, w.before _ s = true := fun w h => hts w (List.mem_cons_of_mem _ h)
  have hown : s.vm.findClass RR = some m.cls := findClass_of_methodNamed B.named
  have hlocks := B.notSynchronized
  have hl := lv_entry ([.ref h, .int (nI k)]) (n := 4) (Nat.le_of_ble_eq_true rfl)
  rw [lg_entry_eq]
  generalize (lg_sl ([.ref h, .int (nI k)]) ++ List.replicate (4 - (lg_sl ([.ref h, .int (nI k)])).length) Slot.unset).toArray = ls at hl ⊢
  have hl : lv_has ls 4 [(0, .ref h), (1, .int (nI k))] := hl
  refine lv_iconst (v := nI 0) hx hb dR_numberAround_0 (by decide) ?_
  refine lv_istore_n (lv' := [(2, .int (nI 0)), (0, .ref h), (1, .int (nI k))]) hx hb dR_numberAround_1 rfl hl (by decide) rfl (fun ls hl => ?_)
  refine lv_iconst (v := nI 0) hx hb dR_numberAround_2 (by decide) ?_
  refine lv_istore_n (lv' := [(3, .int (nI 0)), (2, .int (nI 0)), (0, .ref h), (1, .int (nI k))]) hx hb dR_numberAround_3 rfl hl (by decide) rfl (fun ls hl => ?_)
  have loop_4 : ∀ (n_4 : Nat) (i : Nat) (n : Nat), i ≤ 40 → 40 < i + n_4 → n = bw_N (fun h => bw_m (bl h) k) i → ∀ (ls : Array Slot), lv_has ls 4 [(0, .ref h), (1, .int (nI k)), (2, .int (nI n)), (3, .int (nI i))] → W p l e (headSpec wsR_numberAround ({ frames := 2, cells := 0, slots := 0, locals := 42 } : Room)).room s m ([.ref h, .int (nI k)] : List Value).toArray below meth c s.heap [] 0 0 (MQ below (vp_Si (fun r => r = nI (bw_N (fun h => bw_m (bl h) k) 40))) ([.ref h, .int (nI k)] : List Value).toArray s 0 0 (fun _ => False)) (F0 m 4 ls []) := by
    intro n_4
    induction n_4 with
    | zero => intro i n hii hfi en; exfalso; omega
    | succ n_4 ih_4 =>
      intro i n hii hfi en ls hl
      refine lv_iload_n hx hb dR_numberAround_4 rfl (lv_at hl 3 rfl) ?_
      refine lv_bipush (v := nI 40) hx hb dR_numberAround_5 (by decide) ?_
      refine lv_icmp_ge (tgt := 32) hx hb dR_numberAround_7 (by decide) (fun c_1 => ?_) (fun c_1 => ?_)
      · skip
        have c_1 : 40 ≤ i := (nI_leI (a := 40) (b := i) (by omega) (by omega)).mp c_1
        refine lv_iload_n hx hb dR_numberAround_32 rfl (lv_at hl 2 rfl) ?_
        exact W.iret (v := nI n) hx hb hr (fun t9 ht9 hW9 => ⟨_, rfl, (by rw [en, show i = 40 by omega]), ht9⟩) (fun q hq => nomatch hq) dR_numberAround_33
      · skip
        have c_1 : ¬ 40 ≤ i := fun z => c_1 ((nI_leI (a := 40) (b := i) (by omega) (by omega)).mpr z)
        refine lv_aload_n hx hb dR_numberAround_10 rfl (lv_at hl 0 rfl) ?_
        refine va_get (D := (dC, dI)) (ci := 0) (v := .ref a1) (C := RR) (T := TR) (N := 1) hx hb hT inR hown hK hP 0 rfl rfl 0 (by decide) (hT _ hw_60) (fun _ h9 => h9) rfl dR_numberAround_11 ?_
        refine lv_iload_n hx hb dR_numberAround_14 rfl (lv_at hl 3 rfl) ?_
        refine bw_lald hx hb hK hP 1 0 (k := i) rfl rfl (by omega) (by decide) dR_numberAround_15 ?_
        refine lv_iload_n hx hb dR_numberAround_16 rfl (lv_at hl 1 rfl) ?_
        refine vp_callSi (bw_C (va_runSN (As := [.long (bl i), .int (nI k)]) (rest := []) ⟨hx, hb, hml, hown, hT⟩ (c_has l (bl i) k (by omega)) ⟨va_cnB 2 hT (bw_gi gn_B_has) rfl rfl rfl hN.2.2.2.2 (hT _ hw_18) (by decide +kernel) ⟨Nat.le_of_ble_eq_true rfl, Nat.le_of_ble_eq_true rfl⟩, hT _ hw_94, trivial⟩ preEq rfl rfl hl.1 rfl (lv_room (Nat.le_of_ble_eq_true rfl)) dR_numberAround_17 ⟨Nat.le_of_ble_eq_true rfl, Nat.le_of_ble_eq_true rfl⟩)) (fun r_2 hr_2 => ?_)
        rw [hr_2]; clear hr_2
        refine lv_if_eq (tgt := 26) hx hb dR_numberAround_20 (by decide) (fun c_3 => ?_) (fun c_3 => ?_)
        · skip
          have c_3 := bw_i0.mp c_3
          refine lv_iinc (v := nI (i + 1)) (lv' := [(3, .int (nI (i + 1))), (0, .ref h), (1, .int (nI k)), (2, .int (nI n))]) hx hb dR_numberAround_26 hl (k := 3) rfl (nI_1 _) (by decide) rfl (fun ls hl => ?_)
          refine lv_goto (tgt := 4) hx hb dR_numberAround_29 (by decide) ?_
          exact ih_4 (i + 1) n (by omega) (by omega) (by first | (rw [bw_N_t (c := fun h => bw_m (bl h) k) (n := i) c_3, ← en]; done) | (rw [bw_N_f (c := fun h => bw_m (bl h) k) (n := i) c_3, ← en]; done)) ls (lv_sub hl [1, 2, 3, 0] rfl)
        · skip
          have c_3 := bw_in0 c_3
          refine lv_iinc (v := nI (n + 1)) (lv' := [(2, .int (nI (n + 1))), (0, .ref h), (1, .int (nI k)), (3, .int (nI i))]) hx hb dR_numberAround_23 hl (k := 2) rfl (nI_1 _) (by decide) rfl (fun ls hl => ?_)
          refine lv_iinc (v := nI (i + 1)) (lv' := [(3, .int (nI (i + 1))), (2, .int (nI (n + 1))), (0, .ref h), (1, .int (nI k))]) hx hb dR_numberAround_26 hl (k := 3) rfl (nI_1 _) (by decide) rfl (fun ls hl => ?_)
          refine lv_goto (tgt := 4) hx hb dR_numberAround_29 (by decide) ?_
          exact ih_4 (i + 1) (n + 1) (by omega) (by omega) (by first | (rw [bw_N_t (c := fun h => bw_m (bl h) k) (n := i) c_3, ← en]; done) | (rw [bw_N_f (c := fun h => bw_m (bl h) k) (n := i) c_3, ← en]; done)) ls (lv_sub hl [2, 3, 1, 0] rfl)
  exact loop_4 41 0 0 (by omega) (by omega) (rfl) ls (lv_sub hl [2, 3, 1, 0] rfl)
set_option maxHeartbeats 4000000 in
set_option maxRecDepth 100000 in
theorem c_deepest (l : Launch) (dC : Nat → ClassId) (dI : Nat → Nat → Nat) (h a1 : Nat) (cL : ClassId) (bl : Nat → Int64) : Met l yR_deepest wsR_deepest ({ frames := 3, cells := 0, slots := 0, locals := 65 } : Room) (bw_Ro (dC, dI) [(cL, .long)] [(h, .inr (0, [.ref a1])), (a1, .inl (cL, 40, .inr (.inl bl)))] [.ref h]) (vp_Si (fun r => r = nI (bw_X (fun b => bw_N (fun h => bw_m (bl h) b) 40) 40))) 0 0 (fun _ => False) := by
  refine Met.ofW (cc := cR_deepest) (maxL := 3) (ret := (some .int)) (by decide) rfl ?_
  intro p e s m args below meth c s₁ B hml hv
  obtain ⟨rfl, hP, hK, hN⟩ := hv
  have hx := B.exec
  have hb := B.bytes
  have hr := B.returns
  have hts := atoms_spec (ws := wsR_deepest) B.pre
  have hT : ∀ w ∈ bwB, w.before _ s = true := fun w h => hts w (List.mem_cons_of_mem _ h)
  have hown : s.vm.findClass RR = some m.cls := findClass_of_methodNamed B.named
  have hlocks := B.notSynchronized
  have hl := lv_entry ([.ref h]) (n := 3) (Nat.le_of_ble_eq_true rfl)
  rw [lg_entry_eq]
  generalize (lg_sl ([.ref h]) ++ List.replicate (3 - (lg_sl ([.ref h])).length) Slot.unset).toArray = ls at hl ⊢
  have hl : lv_has ls 3 [(0, .ref h)] := hl
  refine lv_iconst (v := nI 0) hx hb dR_deepest_0 (by decide) ?_
  refine lv_istore_n (lv' := [(1, .int (nI 0)), (0, .ref h)]) hx hb dR_deepest_1 rfl hl (by decide) rfl (fun ls hl => ?_)
  refine lv_iconst (v := nI 0) hx hb dR_deepest_2 (by decide) ?_
  refine lv_istore_n (lv' := [(2, .int (nI 0)), (1, .int (nI 0)), (0, .ref h)]) hx hb dR_deepest_3 rfl hl (by decide) rfl (fun ls hl => ?_)
  have loop_4 : ∀ (n_4 : Nat) (i : Nat) (n : Nat), i ≤ 40 → 40 < i + n_4 → n = bw_X (fun b => bw_N (fun h => bw_m (bl h) b) 40) i → ∀ (ls : Array Slot), lv_has ls 3 [(0, .ref h), (1, .int (nI n)), (2, .int (nI i))] → W p l e (headSpec wsR_deepest ({ frames := 3, cells := 0, slots := 0, locals := 65 } : Room)).room s m ([.ref h] : List Value).toArray below meth c s.heap [] 0 0 (MQ below (vp_Si (fun r => r = nI (bw_X (fun b => bw_N (fun h => bw_m (bl h) b) 40) 40))) ([.ref h] : List Value).toArray s 0 0 (fun _ => False)) (F0 m 4 ls []) := by
    intro n_4
    induction n_4 with
    | zero => intro i n hii hfi en; exfalso; omega
    | succ n_4 ih_4 =>
      intro i n hii hfi en ls hl
      have hn1 : n ≤ 40 := by rw [en]; exact bw_X_le (fun b => bw_N_le _ 40) i
      have hn2 := bw_N_le (fun h => bw_m (bl h) i) 40
      refine lv_iload_n hx hb dR_deepest_4 rfl (lv_at hl 2 rfl) ?_
      refine lv_bipush (v := nI 40) hx hb dR_deepest_5 (by decide) ?_
      refine lv_icmp_ge (tgt := 26) hx hb dR_deepest_7 (by decide) (fun c_1 => ?_) (fun c_1 => ?_)
      · skip
        have c_1 : 40 ≤ i := (nI_leI (a := 40) (b := i) (by omega) (by omega)).mp c_1
        refine lv_iload_n hx hb dR_deepest_26 rfl (lv_at hl 1 rfl) ?_
        exact W.iret (v := nI n) hx hb hr (fun t9 ht9 hW9 => ⟨_, rfl, (by rw [en, show i = 40 by omega]), ht9⟩) (fun q hq => nomatch hq) dR_deepest_27
      · skip
        have c_1 : ¬ 40 ≤ i := fun z => c_1 ((nI_leI (a := 40) (b := i) (by omega) (by omega)).mpr z)
        refine lv_iload_n hx hb dR_deepest_10 rfl (lv_at hl 1 rfl) ?_
        refine lv_aload_n hx hb dR_deepest_11 rfl (lv_at hl 0 rfl) ?_
        refine lv_iload_n hx hb dR_deepest_12 rfl (lv_at hl 2 rfl) ?_
        have hPc := hP
        have hKc := hK
        refine vp_callSi (W.runV (As := [.int (nI i)]) (rest := [.int (nI n)]) ⟨hx, hb, hml, hown, hT⟩ (c_numberAround l dC dI h a1 cL bl i (by omega)) (cwV 1 hT g_R_41 rfl rfl rfl (by decide +kernel) ⟨Nat.le_of_ble_eq_true rfl, Nat.le_of_ble_eq_true rfl⟩) (bw_pV hPc hKc hN (ci := 0) (q0 := 0) rfl rfl) rfl rfl hl.1 rfl (lv_room (Nat.le_of_ble_eq_true rfl)) dR_deepest_13 ⟨Nat.le_of_ble_eq_true rfl, Nat.le_of_ble_eq_true rfl⟩) (fun r_2 hr_2 => ?_)
        rw [hr_2]; clear hr_2
        refine va_mmax hx hb (hml.trans hl.1.symm) hown (hT _ hw_205) (hT _ hw_206) (hT _ hw_23) (hT _ hw_207) (Nat.le_of_ble_eq_true rfl) (Nat.le_of_ble_eq_true rfl) (Nat.zero_le _) (Nat.zero_le _) dR_deepest_16 ?_
        rw [bw_max (a := n) (b := bw_N (fun h => bw_m (bl h) i) 40) (by omega) (by omega)]
        refine lv_istore_n (lv' := [(1, .int (nI (if n < bw_N (fun h => bw_m (bl h) i) 40 then bw_N (fun h => bw_m (bl h) i) 40 else n))), (0, .ref h), (2, .int (nI i))]) hx hb dR_deepest_19 rfl hl (by decide) rfl (fun ls hl => ?_)
        refine lv_iinc (v := nI (i + 1)) (lv' := [(2, .int (nI (i + 1))), (1, .int (nI (if n < bw_N (fun h => bw_m (bl h) i) 40 then bw_N (fun h => bw_m (bl h) i) 40 else n))), (0, .ref h)]) hx hb dR_deepest_20 hl (k := 2) rfl (nI_1 _) (by decide) rfl (fun ls hl => ?_)
        refine lv_goto (tgt := 4) hx hb dR_deepest_23 (by decide) ?_
        exact ih_4 (i + 1) (if n < bw_N (fun h => bw_m (bl h) i) 40 then bw_N (fun h => bw_m (bl h) i) 40 else n) (by omega) (by omega) (by rw [en]; rfl) ls (lv_sub hl [2, 1, 0] rfl)
  exact loop_4 41 0 0 (by omega) (by omega) (rfl) ls (lv_sub hl [2, 1, 0] rfl)
set_option maxHeartbeats 4000000 in
set_option maxRecDepth 100000 in
theorem c_smallestAround (l : Launch) (dC : Nat → ClassId) (dI : Nat → Nat → Nat) (h a1 : Nat) (cL : ClassId) (bl : Nat → Int64) (hbl : ∀ h, h < 40 → ∀ i, bw_m (bl h) i = true → i < 40) (k : Nat) (hk : k < 40) : Met l yR_smallestAround wsR_smallestAround ({ frames := 2, cells := 0, slots := 0, locals := 42 } : Room) (bw_Ro (dC, dI) [(cL, .long)] [(h, .inr (0, [.ref a1])), (a1, .inl (cL, 40, .inr (.inl bl)))] [.ref h, .int (nI k)]) (vp_Si (fun r => r = bw_h (bw_sm bl k 40))) 0 0 (fun _ => False) := by
  refine Met.ofW (cc := cR_smallestAround) (maxL := 6) (ret := (some .int)) (by decide) rfl ?_
  intro p e s m args below meth c s₁ B hml hv
  obtain ⟨rfl, hP, hK, hN⟩ := hv
  have hx := B.exec
  have hb := B.bytes
  have hr := B.returns
  have hts := atoms_spec (ws := wsR_smallestAround) B.pre
  have hT : ∀ w ∈ bwB, w.before _ s = true := fun w h => hts w (List.mem_cons_of_mem _ h)
  have hown : s.vm.findClass RR = some m.cls := findClass_of_methodNamed B.named
  have hlocks := B.notSynchronized
  have hl := lv_entry ([.ref h, .int (nI k)]) (n := 6) (Nat.le_of_ble_eq_true rfl)
  rw [lg_entry_eq]
  generalize (lg_sl ([.ref h, .int (nI k)]) ++ List.replicate (6 - (lg_sl ([.ref h, .int (nI k)])).length) Slot.unset).toArray = ls at hl ⊢
  have hl : lv_has ls 6 [(0, .ref h), (1, .int (nI k))] := hl
  refine lv_iconst (v := -1) hx hb dR_smallestAround_0 (by decide) ?_
  refine lv_istore_n (lv' := [(2, .int (-1)), (0, .ref h), (1, .int (nI k))]) hx hb dR_smallestAround_1 rfl hl (by decide) rfl (fun ls hl => ?_)
  refine lv_bipush (v := nI 41) hx hb dR_smallestAround_2 (by decide) ?_
  refine lv_istore_n (lv' := [(3, .int (nI 41)), (2, .int (-1)), (0, .ref h), (1, .int (nI k))]) hx hb dR_smallestAround_4 rfl hl (by decide) rfl (fun ls hl => ?_)
  refine lv_iconst (v := nI 0) hx hb dR_smallestAround_5 (by decide) ?_
  refine lv_istore (lv' := [(4, .int (nI 0)), (3, .int (nI 41)), (2, .int (-1)), (0, .ref h), (1, .int (nI k))]) hx hb dR_smallestAround_6 hl (by decide) rfl (fun ls hl => ?_)
  have loop_8 : ∀ (n_8 : Nat) (i : Nat) (hd : Int32) (fw : Nat), i ≤ 40 → 40 < i + n_8 → bw_sR bl k i hd fw → ∀ (ls : Array Slot), lv_has ls 6 [(0, .ref h), (1, .int (nI k)), (2, .int hd), (3, .int (nI fw)), (4, .int (nI i))] → W p l e (headSpec wsR_smallestAround ({ frames := 2, cells := 0, slots := 0, locals := 42 } : Room)).room s m ([.ref h, .int (nI k)] : List Value).toArray below meth c s.heap [] 0 0 (MQ below (vp_Si (fun r => r = bw_h (bw_sm bl k 40))) ([.ref h, .int (nI k)] : List Value).toArray s 0 0 (fun _ => False)) (F0 m 8 ls []) := by
    intro n_8
    induction n_8 with
    | zero => intro i hd fw hii hfi hR; exfalso; omega
    | succ n_8 ih_8 =>
      intro i hd fw hii hfi hR ls hl
      have hfw := bw_sR_le hR
      have hc9 := bw_c_le (bl i) 40
      refine lv_iload hx hb dR_smallestAround_8 (lv_at hl 4 rfl) ?_
      refine lv_bipush (v := nI 40) hx hb dR_smallestAround_10 (by decide) ?_
      refine lv_icmp_ge (tgt := 59) hx hb dR_smallestAround_12 (by decide) (fun c_1 => ?_) (fun c_1 => ?_)
      · skip
        have c_1 : 40 ≤ i := (nI_leI (a := 40) (b := i) (by omega) (by omega)).mp c_1
        refine lv_iload_n hx hb dR_smallestAround_59 rfl (lv_at hl 2 rfl) ?_
        exact W.iret (v := hd) hx hb hr (fun t9 ht9 hW9 => ⟨_, rfl, (by rw [bw_sR_h hR, show i = 40 by omega]), ht9⟩) (fun q hq => nomatch hq) dR_smallestAround_60
      · skip
        have c_1 : ¬ 40 ≤ i := fun z => c_1 ((nI_leI (a := 40) (b := i) (by omega) (by omega)).mpr z)
        refine lv_aload_n hx hb dR_smallestAround_15 rfl (lv_at hl 0 rfl) ?_
        refine va_get (D := (dC, dI)) (ci := 0) (v := .ref a1) (C := RR) (T := TR) (N := 1) hx hb hT inR hown hK hP 0 rfl rfl 0 (by decide) (hT _ hw_60) (fun _ h9 => h9) rfl dR_smallestAround_16 ?_
        refine lv_iload hx hb dR_smallestAround_19 (lv_at hl 4 rfl) ?_
        refine bw_lald hx hb hK hP 1 0 (k := i) rfl rfl (by omega) (by decide) dR_smallestAround_21 ?_
        refine vp_callSi (W.runS (As := [.long (bl i)]) (rest := []) ⟨hx, hb, hml, hown, hT⟩ (c_bitCount l (bl i)) (va_cwS 1 hT g_R_51 rfl rfl rfl (by decide +kernel) ⟨Nat.le_of_ble_eq_true rfl, Nat.le_of_ble_eq_true rfl⟩) preEq rfl rfl hl.1 rfl (lv_room (Nat.le_of_ble_eq_true rfl)) dR_smallestAround_22 ⟨Nat.le_of_ble_eq_true rfl, Nat.le_of_ble_eq_true rfl⟩) (fun r_2 hr_2 => ?_)
        rw [hr_2]; clear hr_2
        rw [bw_c40 (hbl i (by omega))]
        refine lv_istore (lv' := [(5, .int (nI (bw_c (bl i) 40))), (0, .ref h), (1, .int (nI k)), (2, .int hd), (3, .int (nI fw)), (4, .int (nI i))]) hx hb dR_smallestAround_25 hl (by decide) rfl (fun ls hl => ?_)
        refine lv_aload_n hx hb dR_smallestAround_27 rfl (lv_at hl 1 rfl) ?_
        refine va_get (D := (dC, dI)) (ci := 0) (v := .ref a1) (C := RR) (T := TR) (N := 1) hx hb hT inR hown hK hP 0 rfl rfl 0 (by decide) (hT _ hw_60) (fun _ h9 => h9) rfl dR_smallestAround_28 ?_
        refine lv_iload hx hb dR_smallestAround_31 (lv_at hl 5 rfl) ?_
        refine bw_lald hx hb hK hP 1 0 (k := i) rfl rfl (by omega) (by decide) dR_smallestAround_33 ?_
        refine lv_iload_n hx hb dR_smallestAround_34 rfl (lv_at hl 2 rfl) ?_
        refine vp_callSi (bw_C (va_runSN (As := [.long (bl i), .int (nI k)]) (rest := []) ⟨hx, hb, hml, hown, hT⟩ (c_has l (bl i) k (by omega)) ⟨va_cnB 2 hT (bw_gi gn_B_has) rfl rfl rfl hN.2.2.2.2 (hT _ hw_18) (by decide +kernel) ⟨Nat.le_of_ble_eq_true rfl, Nat.le_of_ble_eq_true rfl⟩, hT _ hw_94, trivial⟩ preEq rfl rfl hl.1 rfl (lv_room (Nat.le_of_ble_eq_true rfl)) dR_smallestAround_35 ⟨Nat.le_of_ble_eq_true rfl, Nat.le_of_ble_eq_true rfl⟩)) (fun r_3 hr_3 => ?_)
        rw [hr_3]; clear hr_3
        refine lv_if_eq (tgt := 53) hx hb dR_smallestAround_38 (by decide) (fun c_4 => ?_) (fun c_4 => ?_)
        · skip
          have c_4 := bw_i0.mp c_4
          refine lv_iinc (v := nI (i + 1)) (lv' := [(4, .int (nI (i + 1))), (5, .int (nI (bw_c (bl i) 40))), (0, .ref h), (1, .int (nI k)), (2, .int hd), (3, .int (nI fw))]) hx hb dR_smallestAround_53 hl (k := 5) rfl (nI_1 _) (by decide) rfl (fun ls hl => ?_)
          refine lv_goto (tgt := 8) hx hb dR_smallestAround_56 (by decide) ?_
          exact ih_8 (i + 1) hd fw (by omega) (by omega) (by first | exact bw_sR_t hR c_1 c_4 | exact bw_sR_f hR c_4 | exact bw_sR_g hR c_4) ls (lv_sub hl [2, 3, 4, 5, 0] rfl)
        · skip
          have c_4 := bw_in0 c_4
          refine lv_iload hx hb dR_smallestAround_41 (lv_at hl 0 rfl) ?_
          refine lv_iload_n hx hb dR_smallestAround_43 rfl (lv_at hl 4 rfl) ?_
          refine lv_icmp_ge (tgt := 53) hx hb dR_smallestAround_44 (by decide) (fun c_5 => ?_) (fun c_5 => ?_)
          · skip
            have c_5 : fw ≤ (bw_c (bl i) 40) := (nI_leI (a := fw) (b := (bw_c (bl i) 40)) (by omega) (by omega)).mp c_5
            refine lv_iinc (v := nI (i + 1)) (lv' := [(4, .int (nI (i + 1))), (5, .int (nI (bw_c (bl i) 40))), (0, .ref h), (1, .int (nI k)), (2, .int hd), (3, .int (nI fw))]) hx hb dR_smallestAround_53 hl (k := 5) rfl (nI_1 _) (by decide) rfl (fun ls hl => ?_)
            refine lv_goto (tgt := 8) hx hb dR_smallestAround_56 (by decide) ?_
            exact ih_8 (i + 1) hd fw (by omega) (by omega) (by first | exact bw_sR_t hR c_4 c_5 | exact bw_sR_f hR c_5 | exact bw_sR_g hR c_5) ls (lv_sub hl [2, 3, 4, 5, 0] rfl)
          · skip
            have c_5 : ¬ fw ≤ (bw_c (bl i) 40) := fun z => c_5 ((nI_leI (a := fw) (b := (bw_c (bl i) 40)) (by omega) (by omega)).mpr z)
            refine lv_iload hx hb dR_smallestAround_47 (lv_at hl 5 rfl) ?_
            refine lv_istore_n (lv' := [(2, .int (nI i)), (5, .int (nI (bw_c (bl i) 40))), (0, .ref h), (1, .int (nI k)), (3, .int (nI fw)), (4, .int (nI i))]) hx hb dR_smallestAround_49 rfl hl (by decide) rfl (fun ls hl => ?_)
            refine lv_iload hx hb dR_smallestAround_50 (lv_at hl 1 rfl) ?_
            refine lv_istore_n (lv' := [(3, .int (nI (bw_c (bl i) 40))), (2, .int (nI i)), (5, .int (nI (bw_c (bl i) 40))), (0, .ref h), (1, .int (nI k)), (4, .int (nI i))]) hx hb dR_smallestAround_52 rfl hl (by decide) rfl (fun ls hl => ?_)
            refine lv_iinc (v := nI (i + 1)) (lv' := [(4, .int (nI (i + 1))), (3, .int (nI (bw_c (bl i) 40))), (2, .int (nI i)), (5, .int (nI (bw_c (bl i) 40))), (0, .ref h), (1, .int (nI k))]) hx hb dR_smallestAround_53 hl (k := 5) rfl (nI_1 _) (by decide) rfl (fun ls hl => ?_)
            refine lv_goto (tgt := 8) hx hb dR_smallestAround_56 (by decide) ?_
            exact ih_8 (i + 1) (nI i) (bw_c (bl i) 40) (by omega) (by omega) (by first | exact bw_sR_t hR c_4 c_5 | exact bw_sR_f hR c_5 | exact bw_sR_g hR c_5) ls (lv_sub hl [4, 5, 2, 1, 0] rfl)
  exact loop_8 41 0 (-1) 41 (by omega) (by omega) (bw_sR_0 bl k) ls (lv_sub hl [3, 4, 2, 1, 0] rfl)
end
section
set_option maxHeartbeats 4000000 in
set_option maxRecDepth 100000 in
theorem c_addStep (l : Launch) (dC : Nat → ClassId) (dI : Nat → Nat → Nat) (h a1 a2 : Nat) (cL : ClassId) (st gt : Nat → Int64) (cv : Int64) (b to : Nat) (hb9 : b < 40) (sz : Nat) : Met l yS_addStep wsS_addStep ({ frames := 1, cells := 0, slots := 0, locals := 20 } : Room) (bw_Wr (dC, dI) [(cL, .long)] [(h, .inr (1, [.ref a1, .ref a2, .long cv])), (a1, .inl (cL, 40, .inr (.inl st))), (a2, .inl (cL, 40, .inr (.inl gt)))] sz [.ref h, .int (nI b), .int (nI to)]) (va_Qv (S := Unit) (fun _ => True) (fun (_ : Unit) t => va_P (dC, dI) vwCl [(h, .inr (1, [.ref a1, .ref a2, .long cv])), (a1, .inl (cL, 40, .inr (.inl (vp_updL st b (st b ||| bw_b to))))), (a2, .inl (cL, 40, .inr (.inl gt)))] t.heap ∧ va_D (va_A [(h, .inr (1, [.ref a1, .ref a2, .long cv])), (a1, .inl (cL, 40, .inr (.inl st))), (a2, .inl (cL, 40, .inr (.inl gt)))] sz) [(h, .inr (1, [.ref a1, .ref a2, .long cv])), (a1, .inl (cL, 40, .inr (.inl (vp_updL st b (st b ||| bw_b to))))), (a2, .inl (cL, 40, .inr (.inl gt)))]) (va_A [(h, .inr (1, [.ref a1, .ref a2, .long cv])), (a1, .inl (cL, 40, .inr (.inl st))), (a2, .inl (cL, 40, .inr (.inl gt)))] sz)) 0 0 (va_A [(h, .inr (1, [.ref a1, .ref a2, .long cv])), (a1, .inl (cL, 40, .inr (.inl st))), (a2, .inl (cL, 40, .inr (.inl gt)))] sz) := by
  refine Met.ofW (cc := cS_addStep) (maxL := 3) (ret := none) (by decide) rfl ?_
  intro p e s m args below meth c s₁ B hml hv
  obtain ⟨rfl, hsz, hP, hK, hN, hD0⟩ := hv
  have hx := B.exec
  have hb := B.bytes
  have hr := B.returns
  have hts := atoms_spec (ws := wsS_addStep) B.pre
  have hT : ∀ w ∈ bwB, w.before _ s = true := fun w h => hts w (List.mem_cons_of_mem _ h)
  have hown : s.vm.findClass RS = some m.cls := findClass_of_methodNamed B.named
  have hlocks := B.notSynchronized
  subst hsz
  have hD := hD0.self (sz := s.heap.size)
  generalize hAe : va_A [(h, .inr (1, [.ref a1, .ref a2, .long cv])), (a1, .inl (cL, 40, .inr (.inl st))), (a2, .inl (cL, 40, .inr (.inl gt)))] s.heap.size = A at hD ⊢
  have hA : ∀ q : Nat, s.heap.size ≤ q → A q := fun q h => by rw [← hAe]; exact Or.inr h
  have hS : va_S A s.heap s.heap [] := va_S.rf
  have hP : va_P (dC, dI) vwCl [(h, .inr (1, [.ref a1, .ref a2, .long cv])), (a1, .inl (cL, 40, .inr (.inl st))), (a2, .inl (cL, 40, .inr (.inl gt)))] s.heap := hP
  have hl := lv_entry ([.ref h, .int (nI b), .int (nI to)]) (n := 3) (Nat.le_of_ble_eq_true rfl)
  rw [lg_entry_eq]
  generalize (lg_sl ([.ref h, .int (nI b), .int (nI to)]) ++ List.replicate (3 - (lg_sl ([.ref h, .int (nI b), .int (nI to)])).length) Slot.unset).toArray = ls at hl ⊢
  have hl : lv_has ls 3 [(0, .ref h), (1, .int (nI b)), (2, .int (nI to))] := hl
  refine lv_aload_n hx hb dS_addStep_0 rfl (lv_at hl 0 rfl) ?_
  refine va_get (D := (dC, dI)) (ci := 1) (v := .ref a1) (C := RS) (T := TS) (N := 3) hx hb hT inS hown hK hP 0 rfl rfl 0 (by decide) (hT _ hw_42) (fun _ h9 => h9) rfl dS_addStep_1 ?_
  refine lv_iload_n hx hb dS_addStep_4 rfl (lv_at hl 1 rfl) ?_
  refine lv_dup2_11 hx hb dS_addStep_5 rfl rfl ?_
  refine bw_lald hx hb hK hP 1 0 (k := b) rfl rfl (by omega) (by decide) dS_addStep_6 ?_
  refine lv_iload_n hx hb dS_addStep_7 rfl (lv_at hl 2 rfl) ?_
  refine vp_callSl (bw_C (va_runSN (As := [.int (nI to)]) (rest := [.long (st b), .int (nI b), .ref a1]) ⟨hx, hb, hml, hown, hT⟩ (c_bit l to) ⟨va_cnB 1 hT (bw_gi gn_B_bit) rfl rfl rfl hN.1 (hT _ hw_18) (by decide +kernel) ⟨Nat.le_of_ble_eq_true rfl, Nat.le_of_ble_eq_true rfl⟩, hT _ hw_97, trivial⟩ preEq rfl rfl hl.1 rfl (lv_room (Nat.le_of_ble_eq_true rfl)) dS_addStep_8 ⟨Nat.le_of_ble_eq_true rfl, Nat.le_of_ble_eq_true rfl⟩)) (fun r_1 hr_1 => ?_)
  rw [hr_1]; clear hr_1
  refine lv_lor hx hb dS_addStep_11 ?_
  refine bw_last hx hb hK hP hD hS 1 0 (k := b) rfl rfl (by omega) (by decide) dS_addStep_12 (fun H locs hP hD hS => ?_)
  have hP : va_P (dC, dI) vwCl [(h, .inr (1, [.ref a1, .ref a2, .long cv])), (a1, .inl (cL, 40, .inr (.inl (vp_updL st b ((st b) ||| (bw_b to)))))), (a2, .inl (cL, 40, .inr (.inl gt)))] H := hP
  have hD : va_D A [(h, .inr (1, [.ref a1, .ref a2, .long cv])), (a1, .inl (cL, 40, .inr (.inl (vp_updL st b ((st b) ||| (bw_b to)))))), (a2, .inl (cL, 40, .inr (.inl gt)))] := hD
  have hP9 := hP.sub (ws' := [(h, .inr (1, [.ref a1, .ref a2, .long cv])), (a1, .inl (cL, 40, .inr (.inl (vp_updL st b ((st b) ||| (bw_b to)))))), (a2, .inl (cL, 40, .inr (.inl gt)))]) [0, 1, 2] rfl
  have hD9 := hD.sub (ws' := [(h, .inr (1, [.ref a1, .ref a2, .long cv])), (a1, .inl (cL, 40, .inr (.inl (vp_updL st b ((st b) ||| (bw_b to)))))), (a2, .inl (cL, 40, .inr (.inl gt)))]) [0, 1, 2] (by decide) rfl
  exact W.vret hx hb hr (fun t9 ht9 hW9 => ⟨⟨(), rfl, trivial, by rw [ht9]; exact hP9, hD9⟩, hS.F ht9⟩) hS.2.2 dS_addStep_13
set_option maxHeartbeats 4000000 in
set_option maxRecDepth 100000 in
theorem c_removeStepsFrom (l : Launch) (dC : Nat → ClassId) (dI : Nat → Nat → Nat) (h a1 a2 : Nat) (cL : ClassId) (st gt : Nat → Int64) (cv : Int64) (b : Nat) (hb9 : b < 40) (sz : Nat) : Met l yS_removeStepsFrom wsS_removeStepsFrom ({ frames := 0, cells := 0, slots := 0, locals := 0 } : Room) (bw_Wr (dC, dI) [(cL, .long)] [(h, .inr (1, [.ref a1, .ref a2, .long cv])), (a1, .inl (cL, 40, .inr (.inl st))), (a2, .inl (cL, 40, .inr (.inl gt)))] sz [.ref h, .int (nI b)]) (va_Qv (S := Unit) (fun _ => True) (fun (_ : Unit) t => va_P (dC, dI) vwCl [(h, .inr (1, [.ref a1, .ref a2, .long cv])), (a1, .inl (cL, 40, .inr (.inl (vp_updL st b 0)))), (a2, .inl (cL, 40, .inr (.inl gt)))] t.heap ∧ va_D (va_A [(h, .inr (1, [.ref a1, .ref a2, .long cv])), (a1, .inl (cL, 40, .inr (.inl st))), (a2, .inl (cL, 40, .inr (.inl gt)))] sz) [(h, .inr (1, [.ref a1, .ref a2, .long cv])), (a1, .inl (cL, 40, .inr (.inl (vp_updL st b 0)))), (a2, .inl (cL, 40, .inr (.inl gt)))]) (va_A [(h, .inr (1, [.ref a1, .ref a2, .long cv])), (a1, .inl (cL, 40, .inr (.inl st))), (a2, .inl (cL, 40, .inr (.inl gt)))] sz)) 0 0 (va_A [(h, .inr (1, [.ref a1, .ref a2, .long cv])), (a1, .inl (cL, 40, .inr (.inl st))), (a2, .inl (cL, 40, .inr (.inl gt)))] sz) := by
  refine Met.ofW (cc := cS_removeStepsFrom) (maxL := 2) (ret := none) (by decide) rfl ?_
  intro p e s m args below meth c s₁ B hml hv
  obtain ⟨rfl, hsz, hP, hK, hN, hD0⟩ := hv
  have hx := B.exec
  have hb := B.bytes
  have hr := B.returns
  have hts := atoms_spec (ws := wsS_removeStepsFrom) B.pre
  have hT : ∀ w ∈ bwB, w.before _ s = true := fun w h => hts w (List.mem_cons_of_mem _ h)
  have hown : s.vm.findClass RS = some m.cls := findClass_of_methodNamed B.named
  have hlocks := B.notSynchronized
  subst hsz
  have hD := hD0.self (sz := s.heap.size)
  generalize hAe : va_A [(h, .inr (1, [.ref a1, .ref a2, .long cv])), (a1, .inl (cL, 40, .inr (.inl st))), (a2, .inl (cL, 40, .inr (.inl gt)))] s.heap.size = A at hD ⊢
  have hA : ∀ q : Nat, s.heap.size ≤ q → A q := fun q h => by rw [← hAe]; exact Or.inr h
  have hS : va_S A s.heap s.heap [] := va_S.rf
  have hP : va_P (dC, dI) vwCl [(h, .inr (1, [.ref a1, .ref a2, .long cv])), (a1, .inl (cL, 40, .inr (.inl st))), (a2, .inl (cL, 40, .inr (.inl gt)))] s.heap := hP
  have hl := lv_entry ([.ref h, .int (nI b)]) (n := 2) (Nat.le_of_ble_eq_true rfl)
  rw [lg_entry_eq]
  generalize (lg_sl ([.ref h, .int (nI b)]) ++ List.replicate (2 - (lg_sl ([.ref h, .int (nI b)])).length) Slot.unset).toArray = ls at hl ⊢
  have hl : lv_has ls 2 [(0, .ref h), (1, .int (nI b))] := hl
  refine lv_aload_n hx hb dS_removeStepsFrom_0 rfl (lv_at hl 0 rfl) ?_
  refine va_get (D := (dC, dI)) (ci := 1) (v := .ref a1) (C := RS) (T := TS) (N := 3) hx hb hT inS hown hK hP 0 rfl rfl 0 (by decide) (hT _ hw_42) (fun _ h9 => h9) rfl dS_removeStepsFrom_1 ?_
  refine lv_iload_n hx hb dS_removeStepsFrom_4 rfl (lv_at hl 1 rfl) ?_
  refine lv_lconst (v := 0) hx hb dS_removeStepsFrom_5 (by decide) ?_
  refine bw_last hx hb hK hP hD hS 1 0 (k := b) rfl rfl (by omega) (by decide) dS_removeStepsFrom_6 (fun H locs hP hD hS => ?_)
  have hP : va_P (dC, dI) vwCl [(h, .inr (1, [.ref a1, .ref a2, .long cv])), (a1, .inl (cL, 40, .inr (.inl (vp_updL st b 0)))), (a2, .inl (cL, 40, .inr (.inl gt)))] H := hP
  have hD : va_D A [(h, .inr (1, [.ref a1, .ref a2, .long cv])), (a1, .inl (cL, 40, .inr (.inl (vp_updL st b 0)))), (a2, .inl (cL, 40, .inr (.inl gt)))] := hD
  have hP9 := hP.sub (ws' := [(h, .inr (1, [.ref a1, .ref a2, .long cv])), (a1, .inl (cL, 40, .inr (.inl (vp_updL st b 0)))), (a2, .inl (cL, 40, .inr (.inl gt)))]) [0, 1, 2] rfl
  have hD9 := hD.sub (ws' := [(h, .inr (1, [.ref a1, .ref a2, .long cv])), (a1, .inl (cL, 40, .inr (.inl (vp_updL st b 0)))), (a2, .inl (cL, 40, .inr (.inl gt)))]) [0, 1, 2] (by decide) rfl
  exact W.vret hx hb hr (fun t9 ht9 hW9 => ⟨⟨(), rfl, trivial, by rw [ht9]; exact hP9, hD9⟩, hS.F ht9⟩) hS.2.2 dS_removeStepsFrom_7
set_option maxHeartbeats 4000000 in
set_option maxRecDepth 100000 in
theorem c_removeStepsTo (l : Launch) (dC : Nat → ClassId) (dI : Nat → Nat → Nat) (h a1 a2 : Nat) (cL : ClassId) (st gt : Nat → Int64) (cv : Int64) (b : Nat) (hb9 : b < 40) (sz : Nat) : Met l yS_removeStepsTo wsS_removeStepsTo ({ frames := 1, cells := 0, slots := 0, locals := 20 } : Room) (bw_Wr (dC, dI) [(cL, .long)] [(h, .inr (1, [.ref a1, .ref a2, .long cv])), (a1, .inl (cL, 40, .inr (.inl st))), (a2, .inl (cL, 40, .inr (.inl gt)))] sz [.ref h, .int (nI b)]) (va_Qv (S := Unit) (fun _ => True) (fun (_ : Unit) t => va_P (dC, dI) vwCl [(h, .inr (1, [.ref a1, .ref a2, .long cv])), (a1, .inl (cL, 40, .inr (.inl (bw_out st b 40)))), (a2, .inl (cL, 40, .inr (.inl gt)))] t.heap ∧ va_D (va_A [(h, .inr (1, [.ref a1, .ref a2, .long cv])), (a1, .inl (cL, 40, .inr (.inl st))), (a2, .inl (cL, 40, .inr (.inl gt)))] sz) [(h, .inr (1, [.ref a1, .ref a2, .long cv])), (a1, .inl (cL, 40, .inr (.inl (bw_out st b 40)))), (a2, .inl (cL, 40, .inr (.inl gt)))]) (va_A [(h, .inr (1, [.ref a1, .ref a2, .long cv])), (a1, .inl (cL, 40, .inr (.inl st))), (a2, .inl (cL, 40, .inr (.inl gt)))] sz)) 0 0 (va_A [(h, .inr (1, [.ref a1, .ref a2, .long cv])), (a1, .inl (cL, 40, .inr (.inl st))), (a2, .inl (cL, 40, .inr (.inl gt)))] sz) := by
  refine Met.ofW (cc := cS_removeStepsTo) (maxL := 3) (ret := none) (by decide) rfl ?_
  intro p e s m args below meth c s₁ B hml hv
  obtain ⟨rfl, hsz, hP, hK, hN, hD0⟩ := hv
  have hx := B.exec
  have hb := B.bytes
  have hr := B.returns
  have hts := atoms_spec (ws := wsS_removeStepsTo) B.pre
  have hT : ∀ w ∈ bwB, w.before _ s = true := fun w h => hts w (List.mem_cons_of_mem _ h)
  have hown : s.vm.findClass RS = some m.cls := findClass_of_methodNamed B.named
  have hlocks := B.notSynchronized
  subst hsz
  have hD := hD0.self (sz := s.heap.size)
  generalize hAe : va_A [(h, .inr (1, [.ref a1, .ref a2, .long cv])), (a1, .inl (cL, 40, .inr (.inl st))), (a2, .inl (cL, 40, .inr (.inl gt)))] s.heap.size = A at hD ⊢
  have hA : ∀ q : Nat, s.heap.size ≤ q → A q := fun q h => by rw [← hAe]; exact Or.inr h
  have hS : va_S A s.heap s.heap [] := va_S.rf
  have hP : va_P (dC, dI) vwCl [(h, .inr (1, [.ref a1, .ref a2, .long cv])), (a1, .inl (cL, 40, .inr (.inl st))), (a2, .inl (cL, 40, .inr (.inl gt)))] s.heap := hP
  have hl := lv_entry ([.ref h, .int (nI b)]) (n := 3) (Nat.le_of_ble_eq_true rfl)
  rw [lg_entry_eq]
  generalize (lg_sl ([.ref h, .int (nI b)]) ++ List.replicate (3 - (lg_sl ([.ref h, .int (nI b)])).length) Slot.unset).toArray = ls at hl ⊢
  have hl : lv_has ls 3 [(0, .ref h), (1, .int (nI b))] := hl
  refine lv_iconst (v := nI 0) hx hb dS_removeStepsTo_0 (by decide) ?_
  refine lv_istore_n (lv' := [(2, .int (nI 0)), (0, .ref h), (1, .int (nI b))]) hx hb dS_removeStepsTo_1 rfl hl (by decide) rfl (fun ls hl => ?_)
  have loop_2 : ∀ (n_2 : Nat) (i : Nat) (g : Nat → Int64), i ≤ 40 → 40 < i + n_2 → g = bw_out st b i → ∀ (H : Heap) (locs : List Loc), va_P (dC, dI) vwCl [(h, .inr (1, [.ref a1, .ref a2, .long cv])), (a1, .inl (cL, 40, .inr (.inl g))), (a2, .inl (cL, 40, .inr (.inl gt)))] H → va_D A [(h, .inr (1, [.ref a1, .ref a2, .long cv])), (a1, .inl (cL, 40, .inr (.inl g))), (a2, .inl (cL, 40, .inr (.inl gt)))] → va_S A s.heap H locs → ∀ (ls : Array Slot), lv_has ls 3 [(0, .ref h), (1, .int (nI b)), (2, .int (nI i))] → W p l e (headSpec wsS_removeStepsTo ({ frames := 1, cells := 0, slots := 0, locals := 20 } : Room)).room s m ([.ref h, .int (nI b)] : List Value).toArray below meth c H locs 0 0 (MQ below (va_Qv (S := Unit) (fun _ => True) (fun (_ : Unit) t => va_P (dC, dI) vwCl [(h, .inr (1, [.ref a1, .ref a2, .long cv])), (a1, .inl (cL, 40, .inr (.inl (bw_out st b 40)))), (a2, .inl (cL, 40, .inr (.inl gt)))] t.heap ∧ va_D A [(h, .inr (1, [.ref a1, .ref a2, .long cv])), (a1, .inl (cL, 40, .inr (.inl (bw_out st b 40)))), (a2, .inl (cL, 40, .inr (.inl gt)))]) A) ([.ref h, .int (nI b)] : List Value).toArray s 0 0 A) (F0 m 2 ls []) := by
    intro n_2
    induction n_2 with
    | zero => intro i g hii hfi eg; exfalso; omega
    | succ n_2 ih_2 =>
      intro i g hii hfi eg H locs hP hD hS ls hl
      refine lv_iload_n hx hb dS_removeStepsTo_2 rfl (lv_at hl 2 rfl) ?_
      refine lv_bipush (v := nI 40) hx hb dS_removeStepsTo_3 (by decide) ?_
      refine lv_icmp_ge (tgt := 31) hx hb dS_removeStepsTo_5 (by decide) (fun c_1 => ?_) (fun c_1 => ?_)
      · skip
        have c_1 : 40 ≤ i := (nI_leI (a := 40) (b := i) (by omega) (by omega)).mp c_1
        have e40 : i = 40 := by omega
        subst e40
        subst eg
        have hP9 := hP.sub (ws' := [(h, .inr (1, [.ref a1, .ref a2, .long cv])), (a1, .inl (cL, 40, .inr (.inl (bw_out st b 40)))), (a2, .inl (cL, 40, .inr (.inl gt)))]) [0, 1, 2] rfl
        have hD9 := hD.sub (ws' := [(h, .inr (1, [.ref a1, .ref a2, .long cv])), (a1, .inl (cL, 40, .inr (.inl (bw_out st b 40)))), (a2, .inl (cL, 40, .inr (.inl gt)))]) [0, 1, 2] (by decide) rfl
        exact W.vret hx hb hr (fun t9 ht9 hW9 => ⟨⟨(), rfl, trivial, by rw [ht9]; exact hP9, hD9⟩, hS.F ht9⟩) hS.2.2 dS_removeStepsTo_31
      · skip
        have c_1 : ¬ 40 ≤ i := fun z => c_1 ((nI_leI (a := 40) (b := i) (by omega) (by omega)).mpr z)
        refine lv_aload_n hx hb dS_removeStepsTo_8 rfl (lv_at hl 0 rfl) ?_
        refine va_get (D := (dC, dI)) (ci := 1) (v := .ref a1) (C := RS) (T := TS) (N := 3) hx hb hT inS hown hK hP 0 rfl rfl 0 (by decide) (hT _ hw_42) (fun _ h9 => h9) rfl dS_removeStepsTo_9 ?_
        refine lv_iload_n hx hb dS_removeStepsTo_12 rfl (lv_at hl 2 rfl) ?_
        refine lv_dup2_11 hx hb dS_removeStepsTo_13 rfl rfl ?_
        refine bw_lald hx hb hK hP 1 0 (k := i) rfl rfl (by omega) (by decide) dS_removeStepsTo_14 ?_
        refine lv_iload_n hx hb dS_removeStepsTo_15 rfl (lv_at hl 1 rfl) ?_
        refine vp_callSl (bw_C (va_runSN (As := [.int (nI b)]) (rest := [.long (g i), .int (nI i), .ref a1]) ⟨hx, hb, hml, hown, hT⟩ (c_bit l b) ⟨va_cnB 1 hT (bw_gi gn_B_bit) rfl rfl rfl hN.1 (hT _ hw_18) (by decide +kernel) ⟨Nat.le_of_ble_eq_true rfl, Nat.le_of_ble_eq_true rfl⟩, hT _ hw_97, trivial⟩ preEq rfl rfl hl.1 rfl (lv_room (Nat.le_of_ble_eq_true rfl)) dS_removeStepsTo_16 ⟨Nat.le_of_ble_eq_true rfl, Nat.le_of_ble_eq_true rfl⟩)) (fun r_2 hr_2 => ?_)
        rw [hr_2]; clear hr_2
        refine lv_ldc2 (v := (-1)) hx hb hown (hT _ hw_129) dS_removeStepsTo_19 ?_
        refine lv_lxor hx hb dS_removeStepsTo_22 ?_
        refine lv_land hx hb dS_removeStepsTo_23 ?_
        refine bw_last hx hb hK hP hD hS 1 0 (k := i) rfl rfl (by omega) (by decide) dS_removeStepsTo_24 (fun H locs hP hD hS => ?_)
        have hP : va_P (dC, dI) vwCl [(h, .inr (1, [.ref a1, .ref a2, .long cv])), (a1, .inl (cL, 40, .inr (.inl (vp_updL g i ((g i) &&& ((bw_b b) ^^^ (-1))))))), (a2, .inl (cL, 40, .inr (.inl gt)))] H := hP
        have hD : va_D A [(h, .inr (1, [.ref a1, .ref a2, .long cv])), (a1, .inl (cL, 40, .inr (.inl (vp_updL g i ((g i) &&& ((bw_b b) ^^^ (-1))))))), (a2, .inl (cL, 40, .inr (.inl gt)))] := hD
        refine lv_iinc (v := nI (i + 1)) (lv' := [(2, .int (nI (i + 1))), (0, .ref h), (1, .int (nI b))]) hx hb dS_removeStepsTo_25 hl (k := 2) rfl (nI_1 _) (by decide) rfl (fun ls hl => ?_)
        refine lv_goto (tgt := 2) hx hb dS_removeStepsTo_28 (by decide) ?_
        exact ih_2 (i + 1) (vp_updL g i ((g i) &&& ((bw_b b) ^^^ (-1)))) (by omega) (by omega) (by rw [eg]; exact bw_out_s st b i) H locs hP hD hS ls (lv_sub hl [1, 2, 0] rfl)
  exact loop_2 41 0 st (by omega) (by omega) ((bw_out_0 st b).symm) s.heap [] hP hD hS ls (lv_sub hl [1, 2, 0] rfl)
set_option maxHeartbeats 4000000 in
set_option maxRecDepth 100000 in
theorem c_renewS (l : Launch) (dC : Nat → ClassId) (dI : Nat → Nat → Nat) (h a1 a2 : Nat) (cL : ClassId) (st gt : Nat → Int64) (cv : Int64) (fi al : Int64) (sz : Nat) : Met l yS_renew wsS_renew ({ frames := 3, cells := 0, slots := 0, locals := 75 } : Room) (bw_Wr (dC, dI) [(cL, .long)] [(h, .inr (1, [.ref a1, .ref a2, .long cv])), (a1, .inl (cL, 40, .inr (.inl st))), (a2, .inl (cL, 40, .inr (.inl gt)))] sz [.ref h, .long fi, .long al]) (va_Qv (S := Unit) (fun _ => True) (fun (_ : Unit) t => va_P (dC, dI) vwCl [(h, .inr (1, [.ref a1, .ref a2, .long (bw_flood st fi al)])), (a1, .inl (cL, 40, .inr (.inl st))), (a2, .inl (cL, 40, .inr (.inl (bw_up (bw_gt st fi (bw_flood st fi al)) gt 40))))] t.heap ∧ va_D (va_A [(h, .inr (1, [.ref a1, .ref a2, .long cv])), (a1, .inl (cL, 40, .inr (.inl st))), (a2, .inl (cL, 40, .inr (.inl gt)))] sz) [(h, .inr (1, [.ref a1, .ref a2, .long (bw_flood st fi al)])), (a1, .inl (cL, 40, .inr (.inl st))), (a2, .inl (cL, 40, .inr (.inl (bw_up (bw_gt st fi (bw_flood st fi al)) gt 40))))]) (va_A [(h, .inr (1, [.ref a1, .ref a2, .long cv])), (a1, .inl (cL, 40, .inr (.inl st))), (a2, .inl (cL, 40, .inr (.inl gt)))] sz)) 0 0 (va_A [(h, .inr (1, [.ref a1, .ref a2, .long cv])), (a1, .inl (cL, 40, .inr (.inl st))), (a2, .inl (cL, 40, .inr (.inl gt)))] sz) := by
  refine Met.ofW (cc := cS_renew) (maxL := 6) (ret := none) (by decide) rfl ?_
  intro p e s m args below meth c s₁ B hml hv
  obtain ⟨rfl, hsz, hP, hK, hN, hD0⟩ := hv
  have hx := B.exec
  have hb := B.bytes
  have hr := B.returns
  have hts := atoms_spec (ws := wsS_renew) B.pre
  have hT : ∀ w ∈ bwB, w.before _ s = true := fun w h => hts w (List.mem_cons_of_mem _ h)
  have hown : s.vm.findClass RS = some m.cls := findClass_of_methodNamed B.named
  have hlocks := B.notSynchronized
  subst hsz
  have hD := hD0.self (sz := s.heap.size)
  generalize hAe : va_A [(h, .inr (1, [.ref a1, .ref a2, .long cv])), (a1, .inl (cL, 40, .inr (.inl st))), (a2, .inl (cL, 40, .inr (.inl gt)))] s.heap.size = A at hD ⊢
  have hA : ∀ q : Nat, s.heap.size ≤ q → A q := fun q h => by rw [← hAe]; exact Or.inr h
  have hS : va_S A s.heap s.heap [] := va_S.rf
  have hP : va_P (dC, dI) vwCl [(h, .inr (1, [.ref a1, .ref a2, .long cv])), (a1, .inl (cL, 40, .inr (.inl st))), (a2, .inl (cL, 40, .inr (.inl gt)))] s.heap := hP
  have hl := lv_entry ([.ref h, .long fi, .long al]) (n := 6) (Nat.le_of_ble_eq_true rfl)
  rw [lg_entry_eq]
  generalize (lg_sl ([.ref h, .long fi, .long al]) ++ List.replicate (6 - (lg_sl ([.ref h, .long fi, .long al])).length) Slot.unset).toArray = ls at hl ⊢
  have hl : lv_has ls 6 [(0, .ref h), (1, .long fi), (3, .long al)] := hl
  refine lv_aload_n hx hb dS_renew_0 rfl (lv_at hl 0 rfl) ?_
  refine lv_aload_n hx hb dS_renew_1 rfl (lv_at hl 0 rfl) ?_
  refine lv_lload_n hx hb dS_renew_2 rfl (lv_at hl 1 rfl) ?_
  refine lv_lload_n hx hb dS_renew_3 rfl (lv_at hl 2 rfl) ?_
  have hPc := hP
  have hKc := hK
  refine vp_callSl (W.runV (As := [.long fi, .long al]) (rest := [.ref h]) ⟨hx, hb, hml, hown, hT⟩ (c_flood l dC dI h a1 a2 cL st gt cv fi al) (cwV 2 hT g_S_28 rfl rfl rfl (by decide +kernel) ⟨Nat.le_of_ble_eq_true rfl, Nat.le_of_ble_eq_true rfl⟩) (bw_pV hPc hKc hN (ci := 1) (q0 := 0) rfl rfl) rfl rfl hl.1 rfl (lv_room (Nat.le_of_ble_eq_true rfl)) dS_renew_4 ⟨Nat.le_of_ble_eq_true rfl, Nat.le_of_ble_eq_true rfl⟩) (fun r_1 hr_1 => ?_)
  rw [hr_1]; clear hr_1
  refine va_put (D := (dC, dI)) (ci := 1) (v := .long (bw_flood st fi al)) (ty := .long) (C := RS) (T := TS) (N := 3) hx hb hT inS tyS tokS nmS hown hK hP hD hS 0 rfl rfl 2 (by decide) (hT _ hw_44) (fun _ h9 => h9) rfl (by decide +kernel) rfl rfl (Nat.le_of_ble_eq_true rfl) dS_renew_7 (fun H locs hP hD hS => ?_)
  have hP : va_P (dC, dI) vwCl [(h, .inr (1, [.ref a1, .ref a2, .long (bw_flood st fi al)])), (a1, .inl (cL, 40, .inr (.inl st))), (a2, .inl (cL, 40, .inr (.inl gt)))] H := hP
  have hD : va_D A [(h, .inr (1, [.ref a1, .ref a2, .long (bw_flood st fi al)])), (a1, .inl (cL, 40, .inr (.inl st))), (a2, .inl (cL, 40, .inr (.inl gt)))] := hD
  refine lv_iconst (v := nI 0) hx hb dS_renew_10 (by decide) ?_
  refine lv_istore (lv' := [(5, .int (nI 0)), (0, .ref h), (1, .long fi), (3, .long al)]) hx hb dS_renew_11 hl (by decide) rfl (fun ls hl => ?_)
  have loop_13 : ∀ (n_13 : Nat) (i : Nat) (g : Nat → Int64), i ≤ 40 → 40 < i + n_13 → g = bw_up (bw_gt st fi (bw_flood st fi al)) gt i → ∀ (H : Heap) (locs : List Loc), va_P (dC, dI) vwCl [(h, .inr (1, [.ref a1, .ref a2, .long (bw_flood st fi al)])), (a1, .inl (cL, 40, .inr (.inl st))), (a2, .inl (cL, 40, .inr (.inl g)))] H → va_D A [(h, .inr (1, [.ref a1, .ref a2, .long (bw_flood st fi al)])), (a1, .inl (cL, 40, .inr (.inl st))), (a2, .inl (cL, 40, .inr (.inl g)))] → va_S A s.heap H locs → ∀ (ls : Array Slot), lv_has ls 6 [(0, .ref h), (1, .long fi), (3, .long al), (5, .int (nI i))] → W p l e (headSpec wsS_renew ({ frames := 3, cells := 0, slots := 0, locals := 75 } : Room)).room s m ([.ref h, .long fi, .long al] : List Value).toArray below meth c H locs 0 0 (MQ below (va_Qv (S := Unit) (fun _ => True) (fun (_ : Unit) t => va_P (dC, dI) vwCl [(h, .inr (1, [.ref a1, .ref a2, .long (bw_flood st fi al)])), (a1, .inl (cL, 40, .inr (.inl st))), (a2, .inl (cL, 40, .inr (.inl (bw_up (bw_gt st fi (bw_flood st fi al)) gt 40))))] t.heap ∧ va_D A [(h, .inr (1, [.ref a1, .ref a2, .long (bw_flood st fi al)])), (a1, .inl (cL, 40, .inr (.inl st))), (a2, .inl (cL, 40, .inr (.inl (bw_up (bw_gt st fi (bw_flood st fi al)) gt 40))))]) A) ([.ref h, .long fi, .long al] : List Value).toArray s 0 0 A) (F0 m 13 ls []) := by
    intro n_13
    induction n_13 with
    | zero => intro i g hii hfi eg; exfalso; omega
    | succ n_13 ih_13 =>
      intro i g hii hfi eg H locs hP hD hS ls hl
      refine lv_iload hx hb dS_renew_13 (lv_at hl 3 rfl) ?_
      refine lv_bipush (v := nI 40) hx hb dS_renew_15 (by decide) ?_
      refine lv_icmp_ge (tgt := 77) hx hb dS_renew_17 (by decide) (fun c_2 => ?_) (fun c_2 => ?_)
      · skip
        have c_2 : 40 ≤ i := (nI_leI (a := 40) (b := i) (by omega) (by omega)).mp c_2
        have e40 : i = 40 := by omega
        subst e40
        subst eg
        have hP9 := hP.sub (ws' := [(h, .inr (1, [.ref a1, .ref a2, .long (bw_flood st fi al)])), (a1, .inl (cL, 40, .inr (.inl st))), (a2, .inl (cL, 40, .inr (.inl (bw_up (bw_gt st fi (bw_flood st fi al)) gt 40))))]) [0, 1, 2] rfl
        have hD9 := hD.sub (ws' := [(h, .inr (1, [.ref a1, .ref a2, .long (bw_flood st fi al)])), (a1, .inl (cL, 40, .inr (.inl st))), (a2, .inl (cL, 40, .inr (.inl (bw_up (bw_gt st fi (bw_flood st fi al)) gt 40))))]) [0, 1, 2] (by decide) rfl
        exact W.vret hx hb hr (fun t9 ht9 hW9 => ⟨⟨(), rfl, trivial, by rw [ht9]; exact hP9, hD9⟩, hS.F ht9⟩) hS.2.2 dS_renew_77
      · skip
        have c_2 : ¬ 40 ≤ i := fun z => c_2 ((nI_leI (a := 40) (b := i) (by omega) (by omega)).mpr z)
        refine lv_aload_n hx hb dS_renew_20 rfl (lv_at hl 0 rfl) ?_
        refine va_get (D := (dC, dI)) (ci := 1) (v := .ref a2) (C := RS) (T := TS) (N := 3) hx hb hT inS hown hK hP 0 rfl rfl 1 (by decide) (hT _ hw_43) (fun _ h9 => h9) rfl dS_renew_21 ?_
        refine lv_iload hx hb dS_renew_24 (lv_at hl 3 rfl) ?_
        refine lv_aload_n hx hb dS_renew_26 rfl (lv_at hl 0 rfl) ?_
        refine va_get (D := (dC, dI)) (ci := 1) (v := .long (bw_flood st fi al)) (C := RS) (T := TS) (N := 3) hx hb hT inS hown hK hP 0 rfl rfl 2 (by decide) (hT _ hw_44) (fun _ h9 => h9) rfl dS_renew_27 ?_
        refine lv_iload hx hb dS_renew_30 (lv_at hl 3 rfl) ?_
        refine vp_callSi (bw_C (va_runSN (As := [.long (bw_flood st fi al), .int (nI i)]) (rest := [.int (nI i), .ref a2]) ⟨hx, hb, hml, hown, hT⟩ (c_has l (bw_flood st fi al) i (by omega)) ⟨va_cnB 2 hT (bw_gi gn_B_has) rfl rfl rfl hN.2.2.1 (hT _ hw_18) (by decide +kernel) ⟨Nat.le_of_ble_eq_true rfl, Nat.le_of_ble_eq_true rfl⟩, hT _ hw_94, trivial⟩ preEq rfl rfl hl.1 rfl (lv_room (Nat.le_of_ble_eq_true rfl)) dS_renew_32 ⟨Nat.le_of_ble_eq_true rfl, Nat.le_of_ble_eq_true rfl⟩)) (fun r_3 hr_3 => ?_)
        rw [hr_3]; clear hr_3
        refine lv_if_eq (tgt := 69) hx hb dS_renew_35 (by decide) (fun c_4 => ?_) (fun c_4 => ?_)
        · skip
          have c_4 := bw_i0.mp c_4
          refine lv_lconst (v := 0) hx hb dS_renew_69 (by decide) ?_
          refine bw_last hx hb hK hP hD hS 2 0 (k := i) rfl rfl (by omega) (by decide) dS_renew_70 (fun H locs hP hD hS => ?_)
          have hP : va_P (dC, dI) vwCl [(h, .inr (1, [.ref a1, .ref a2, .long (bw_flood st fi al)])), (a1, .inl (cL, 40, .inr (.inl st))), (a2, .inl (cL, 40, .inr (.inl (vp_updL g i 0))))] H := hP
          have hD : va_D A [(h, .inr (1, [.ref a1, .ref a2, .long (bw_flood st fi al)])), (a1, .inl (cL, 40, .inr (.inl st))), (a2, .inl (cL, 40, .inr (.inl (vp_updL g i 0))))] := hD
          refine lv_iinc (v := nI (i + 1)) (lv' := [(5, .int (nI (i + 1))), (0, .ref h), (1, .long fi), (3, .long al)]) hx hb dS_renew_71 hl (k := 3) rfl (nI_1 _) (by decide) rfl (fun ls hl => ?_)
          refine lv_goto (tgt := 13) hx hb dS_renew_74 (by decide) ?_
          exact ih_13 (i + 1) (vp_updL g i 0) (by omega) (by omega) (by rw [eg]; refine bw_up_s _ gt i ?_; unfold bw_gt; first | (rw [if_pos c_4]; done) | (rw [if_neg (by rw [c_4]; simp)]; done)) H locs hP hD hS ls (lv_sub hl [1, 2, 3, 0] rfl)
        · skip
          have c_4 := bw_in0 c_4
          refine lv_aload_n hx hb dS_renew_38 rfl (lv_at hl 0 rfl) ?_
          refine va_get (D := (dC, dI)) (ci := 1) (v := .long (bw_flood st fi al)) (C := RS) (T := TS) (N := 3) hx hb hT inS hown hK hP 0 rfl rfl 2 (by decide) (hT _ hw_44) (fun _ h9 => h9) rfl dS_renew_39 ?_
          refine lv_aload_n hx hb dS_renew_42 rfl (lv_at hl 0 rfl) ?_
          refine lv_lload_n hx hb dS_renew_43 rfl (lv_at hl 1 rfl) ?_
          refine lv_aload_n hx hb dS_renew_44 rfl (lv_at hl 0 rfl) ?_
          refine va_get (D := (dC, dI)) (ci := 1) (v := .long (bw_flood st fi al)) (C := RS) (T := TS) (N := 3) hx hb hT inS hown hK hP 0 rfl rfl 2 (by decide) (hT _ hw_44) (fun _ h9 => h9) rfl dS_renew_45 ?_
          refine lv_iload hx hb dS_renew_48 (lv_at hl 3 rfl) ?_
          refine vp_callSl (bw_runSNk 9 1 (As := [.int (nI i)]) (rest := [.long (bw_flood st fi al), .long fi, .ref h, .long (bw_flood st fi al), .int (nI i), .ref a2]) ⟨hx, hb, hml, hown, hT⟩ (c_bit l i) (bw_gi gn_B_bit) rfl rfl rfl hN.1 (hT _ hw_18) (by decide +kernel) ⟨Nat.le_of_ble_eq_true rfl, Nat.le_of_ble_eq_true rfl⟩ (hT _ hw_97) preEq rfl rfl hl.1 rfl (bw_roomk (Nat.le_of_ble_eq_true rfl)) dS_renew_50 ⟨Nat.le_of_ble_eq_true rfl, Nat.le_of_ble_eq_true rfl⟩) (fun r_5 hr_5 => ?_)
          rw [hr_5]; clear hr_5
          refine lv_ldc2 (v := (-1)) hx hb hown (hT _ hw_129) dS_renew_53 ?_
          refine lv_lxor hx hb dS_renew_56 ?_
          refine lv_land hx hb dS_renew_57 ?_
          have hPc := hP
          have hKc := hK
          refine vp_callSl (W.runV (As := [.long fi, .long ((bw_flood st fi al) &&& ((bw_b i) ^^^ (-1)))]) (rest := [.long (bw_flood st fi al), .int (nI i), .ref a2]) ⟨hx, hb, hml, hown, hT⟩ (c_flood l dC dI h a1 a2 cL st g (bw_flood st fi al) fi ((bw_flood st fi al) &&& ((bw_b i) ^^^ (-1)))) (cwV 2 hT g_S_28 rfl rfl rfl (by decide +kernel) ⟨Nat.le_of_ble_eq_true rfl, Nat.le_of_ble_eq_true rfl⟩) (bw_pV hPc hKc hN (ci := 1) (q0 := 0) rfl rfl) rfl rfl hl.1 rfl (lv_room (Nat.le_of_ble_eq_true rfl)) dS_renew_58 ⟨Nat.le_of_ble_eq_true rfl, Nat.le_of_ble_eq_true rfl⟩) (fun r_6 hr_6 => ?_)
          rw [hr_6]; clear hr_6
          refine lv_ldc2 (v := (-1)) hx hb hown (hT _ hw_129) dS_renew_61 ?_
          refine lv_lxor hx hb dS_renew_64 ?_
          refine lv_land hx hb dS_renew_65 ?_
          refine lv_goto (tgt := 70) hx hb dS_renew_66 (by decide) ?_
          refine bw_last hx hb hK hP hD hS 2 0 (k := i) rfl rfl (by omega) (by decide) dS_renew_70 (fun H locs hP hD hS => ?_)
          have hP : va_P (dC, dI) vwCl [(h, .inr (1, [.ref a1, .ref a2, .long (bw_flood st fi al)])), (a1, .inl (cL, 40, .inr (.inl st))), (a2, .inl (cL, 40, .inr (.inl (vp_updL g i ((bw_flood st fi al) &&& ((bw_flood st fi ((bw_flood st fi al) &&& ((bw_b i) ^^^ (-1)))) ^^^ (-1)))))))] H := hP
          have hD : va_D A [(h, .inr (1, [.ref a1, .ref a2, .long (bw_flood st fi al)])), (a1, .inl (cL, 40, .inr (.inl st))), (a2, .inl (cL, 40, .inr (.inl (vp_updL g i ((bw_flood st fi al) &&& ((bw_flood st fi ((bw_flood st fi al) &&& ((bw_b i) ^^^ (-1)))) ^^^ (-1)))))))] := hD
          refine lv_iinc (v := nI (i + 1)) (lv' := [(5, .int (nI (i + 1))), (0, .ref h), (1, .long fi), (3, .long al)]) hx hb dS_renew_71 hl (k := 3) rfl (nI_1 _) (by decide) rfl (fun ls hl => ?_)
          refine lv_goto (tgt := 13) hx hb dS_renew_74 (by decide) ?_
          exact ih_13 (i + 1) (vp_updL g i ((bw_flood st fi al) &&& ((bw_flood st fi ((bw_flood st fi al) &&& ((bw_b i) ^^^ (-1)))) ^^^ (-1)))) (by omega) (by omega) (by rw [eg]; refine bw_up_s _ gt i ?_; unfold bw_gt; first | (rw [if_pos c_4]; done) | (rw [if_neg (by rw [c_4]; simp)]; done)) H locs hP hD hS ls (lv_sub hl [1, 2, 3, 0] rfl)
  exact loop_13 41 0 gt (by omega) (by omega) ((bw_up_0 _ gt).symm) H locs hP hD hS ls (lv_sub hl [1, 2, 3, 0] rfl)
set_option maxHeartbeats 4000000 in
set_option maxRecDepth 100000 in
theorem c_renewR (l : Launch) (dC : Nat → ClassId) (dI : Nat → Nat → Nat) (h a1 : Nat) (cL : ClassId) (bl : Nat → Int64) (o o1 o2 : Nat) (so go : Nat → Int64) (co : Int64) (q q1 q2 : Nat) (sb gb : Nat → Int64) (cb : Int64) (sz : Nat) : Met l yR_renew wsR_renew ({ frames := 3, cells := 0, slots := 0, locals := 74 } : Room) (bw_Wr (dC, dI) [(cL, .long)] [(h, .inr (0, [.ref a1])), (a1, .inl (cL, 40, .inr (.inl bl))), (o, .inr (1, [.ref o1, .ref o2, .long co])), (o1, .inl (cL, 40, .inr (.inl so))), (o2, .inl (cL, 40, .inr (.inl go))), (q, .inr (1, [.ref q1, .ref q2, .long cb])), (q1, .inl (cL, 40, .inr (.inl sb))), (q2, .inl (cL, 40, .inr (.inl gb)))] sz [.ref h, .ref o, .ref q]) (va_Qv (S := Unit) (fun _ => True) (fun (_ : Unit) t => va_P (dC, dI) vwCl [(h, .inr (0, [.ref a1])), (a1, .inl (cL, 40, .inr (.inl (bw_up (bw_bl sb go co) bl 40)))), (o, .inr (1, [.ref o1, .ref o2, .long co])), (o1, .inl (cL, 40, .inr (.inl so))), (o2, .inl (cL, 40, .inr (.inl go))), (q, .inr (1, [.ref q1, .ref q2, .long cb])), (q1, .inl (cL, 40, .inr (.inl sb))), (q2, .inl (cL, 40, .inr (.inl gb)))] t.heap ∧ va_D (va_A [(h, .inr (0, [.ref a1])), (a1, .inl (cL, 40, .inr (.inl bl))), (o, .inr (1, [.ref o1, .ref o2, .long co])), (o1, .inl (cL, 40, .inr (.inl so))), (o2, .inl (cL, 40, .inr (.inl go))), (q, .inr (1, [.ref q1, .ref q2, .long cb])), (q1, .inl (cL, 40, .inr (.inl sb))), (q2, .inl (cL, 40, .inr (.inl gb)))] sz) [(h, .inr (0, [.ref a1])), (a1, .inl (cL, 40, .inr (.inl (bw_up (bw_bl sb go co) bl 40)))), (o, .inr (1, [.ref o1, .ref o2, .long co])), (o1, .inl (cL, 40, .inr (.inl so))), (o2, .inl (cL, 40, .inr (.inl go))), (q, .inr (1, [.ref q1, .ref q2, .long cb])), (q1, .inl (cL, 40, .inr (.inl sb))), (q2, .inl (cL, 40, .inr (.inl gb)))]) (va_A [(h, .inr (0, [.ref a1])), (a1, .inl (cL, 40, .inr (.inl bl))), (o, .inr (1, [.ref o1, .ref o2, .long co])), (o1, .inl (cL, 40, .inr (.inl so))), (o2, .inl (cL, 40, .inr (.inl go))), (q, .inr (1, [.ref q1, .ref q2, .long cb])), (q1, .inl (cL, 40, .inr (.inl sb))), (q2, .inl (cL, 40, .inr (.inl gb)))] sz)) 0 0 (va_A [(h, .inr (0, [.ref a1])), (a1, .inl (cL, 40, .inr (.inl bl))), (o, .inr (1, [.ref o1, .ref o2, .long co])), (o1, .inl (cL, 40, .inr (.inl so))), (o2, .inl (cL, 40, .inr (.inl go))), (q, .inr (1, [.ref q1, .ref q2, .long cb])), (q1, .inl (cL, 40, .inr (.inl sb))), (q2, .inl (cL, 40, .inr (.inl gb)))] sz) := by
  refine Met.ofW (cc := cR_renew) (maxL := 8) (ret := none) (by decide) rfl ?_
  intro p e s m args below meth c s₁ B hml hv
  obtain ⟨rfl, hsz, hP, hK, hN, hD0⟩ := hv
  have hx := B.exec
  have hb := B.bytes
  have hr := B.returns
  have hts := atoms_spec (ws := wsR_renew) B.pre
  have hT : ∀ w ∈ bwB, w.before _ s = true := fun w h => hts w (List.mem_cons_of_mem _ h)
  have hown : s.vm.findClass RR = some m.cls := findClass_of_methodNamed B.named
  have hlocks := B.notSynchronized
  subst hsz
  have hD := hD0.self (sz := s.heap.size)
  generalize hAe : va_A [(h, .inr (0, [.ref a1])), (a1, .inl (cL, 40, .inr (.inl bl))), (o, .inr (1, [.ref o1, .ref o2, .long co])), (o1, .inl (cL, 40, .inr (.inl so))), (o2, .inl (cL, 40, .inr (.inl go))), (q, .inr (1, [.ref q1, .ref q2, .long cb])), (q1, .inl (cL, 40, .inr (.inl sb))), (q2, .inl (cL, 40, .inr (.inl gb)))] s.heap.size = A at hD ⊢
  have hA : ∀ q : Nat, s.heap.size ≤ q → A q := fun q h => by rw [← hAe]; exact Or.inr h
  have hS : va_S A s.heap s.heap [] := va_S.rf
  have hP : va_P (dC, dI) vwCl [(h, .inr (0, [.ref a1])), (a1, .inl (cL, 40, .inr (.inl bl))), (o, .inr (1, [.ref o1, .ref o2, .long co])), (o1, .inl (cL, 40, .inr (.inl so))), (o2, .inl (cL, 40, .inr (.inl go))), (q, .inr (1, [.ref q1, .ref q2, .long cb])), (q1, .inl (cL, 40, .inr (.inl sb))), (q2, .inl (cL, 40, .inr (.inl gb)))] s.heap := hP
  have hl := lv_entry ([.ref h, .ref o, .ref q]) (n := 8) (Nat.le_of_ble_eq_true rfl)
  rw [lg_entry_eq]
  generalize (lg_sl ([.ref h, .ref o, .ref q]) ++ List.replicate (8 - (lg_sl ([.ref h, .ref o, .ref q])).length) Slot.unset).toArray = ls at hl ⊢
  have hl : lv_has ls 8 [(0, .ref h), (1, .ref o), (2, .ref q)] := hl
  refine lv_iconst (v := nI 0) hx hb dR_renew_0 (by decide) ?_
  refine lv_istore_n (lv' := [(3, .int (nI 0)), (0, .ref h), (1, .ref o), (2, .ref q)]) hx hb dR_renew_1 rfl hl (by decide) rfl (fun ls hl => ?_)
  have loop_2 : ∀ (n_2 : Nat) (i : Nat) (g : Nat → Int64), i ≤ 40 → 40 < i + n_2 → g = bw_up (bw_bl sb go co) bl i → ∀ (H : Heap) (locs : List Loc), va_P (dC, dI) vwCl [(h, .inr (0, [.ref a1])), (a1, .inl (cL, 40, .inr (.inl g))), (o, .inr (1, [.ref o1, .ref o2, .long co])), (o1, .inl (cL, 40, .inr (.inl so))), (o2, .inl (cL, 40, .inr (.inl go))), (q, .inr (1, [.ref q1, .ref q2, .long cb])), (q1, .inl (cL, 40, .inr (.inl sb))), (q2, .inl (cL, 40, .inr (.inl gb)))] H → va_D A [(h, .inr (0, [.ref a1])), (a1, .inl (cL, 40, .inr (.inl g))), (o, .inr (1, [.ref o1, .ref o2, .long co])), (o1, .inl (cL, 40, .inr (.inl so))), (o2, .inl (cL, 40, .inr (.inl go))), (q, .inr (1, [.ref q1, .ref q2, .long cb])), (q1, .inl (cL, 40, .inr (.inl sb))), (q2, .inl (cL, 40, .inr (.inl gb)))] → va_S A s.heap H locs → ∀ (ls : Array Slot), lv_has ls 8 [(0, .ref h), (1, .ref o), (2, .ref q), (3, .int (nI i))] → W p l e (headSpec wsR_renew ({ frames := 3, cells := 0, slots := 0, locals := 74 } : Room)).room s m ([.ref h, .ref o, .ref q] : List Value).toArray below meth c H locs 0 0 (MQ below (va_Qv (S := Unit) (fun _ => True) (fun (_ : Unit) t => va_P (dC, dI) vwCl [(h, .inr (0, [.ref a1])), (a1, .inl (cL, 40, .inr (.inl (bw_up (bw_bl sb go co) bl 40)))), (o, .inr (1, [.ref o1, .ref o2, .long co])), (o1, .inl (cL, 40, .inr (.inl so))), (o2, .inl (cL, 40, .inr (.inl go))), (q, .inr (1, [.ref q1, .ref q2, .long cb])), (q1, .inl (cL, 40, .inr (.inl sb))), (q2, .inl (cL, 40, .inr (.inl gb)))] t.heap ∧ va_D A [(h, .inr (0, [.ref a1])), (a1, .inl (cL, 40, .inr (.inl (bw_up (bw_bl sb go co) bl 40)))), (o, .inr (1, [.ref o1, .ref o2, .long co])), (o1, .inl (cL, 40, .inr (.inl so))), (o2, .inl (cL, 40, .inr (.inl go))), (q, .inr (1, [.ref q1, .ref q2, .long cb])), (q1, .inl (cL, 40, .inr (.inl sb))), (q2, .inl (cL, 40, .inr (.inl gb)))]) A) ([.ref h, .ref o, .ref q] : List Value).toArray s 0 0 A) (F0 m 2 ls []) := by
    intro n_2
    induction n_2 with
    | zero => intro i g hii hfi eg; exfalso; omega
    | succ n_2 ih_2 =>
      intro i g hii hfi eg H locs hP hD hS ls hl
      refine lv_iload_n hx hb dR_renew_2 rfl (lv_at hl 3 rfl) ?_
      refine lv_bipush (v := nI 40) hx hb dR_renew_3 (by decide) ?_
      refine lv_icmp_ge (tgt := 72) hx hb dR_renew_5 (by decide) (fun c_1 => ?_) (fun c_1 => ?_)
      · skip
        have c_1 : 40 ≤ i := (nI_leI (a := 40) (b := i) (by omega) (by omega)).mp c_1
        have e40 : i = 40 := by omega
        subst e40
        subst eg
        have hP9 := hP.sub (ws' := [(h, .inr (0, [.ref a1])), (a1, .inl (cL, 40, .inr (.inl (bw_up (bw_bl sb go co) bl 40)))), (o, .inr (1, [.ref o1, .ref o2, .long co])), (o1, .inl (cL, 40, .inr (.inl so))), (o2, .inl (cL, 40, .inr (.inl go))), (q, .inr (1, [.ref q1, .ref q2, .long cb])), (q1, .inl (cL, 40, .inr (.inl sb))), (q2, .inl (cL, 40, .inr (.inl gb)))]) [0, 1, 2, 3, 4, 5, 6, 7] rfl
        have hD9 := hD.sub (ws' := [(h, .inr (0, [.ref a1])), (a1, .inl (cL, 40, .inr (.inl (bw_up (bw_bl sb go co) bl 40)))), (o, .inr (1, [.ref o1, .ref o2, .long co])), (o1, .inl (cL, 40, .inr (.inl so))), (o2, .inl (cL, 40, .inr (.inl go))), (q, .inr (1, [.ref q1, .ref q2, .long cb])), (q1, .inl (cL, 40, .inr (.inl sb))), (q2, .inl (cL, 40, .inr (.inl gb)))]) [0, 1, 2, 3, 4, 5, 6, 7] (by decide) rfl
        exact W.vret hx hb hr (fun t9 ht9 hW9 => ⟨⟨(), rfl, trivial, by rw [ht9]; exact hP9, hD9⟩, hS.F ht9⟩) hS.2.2 dR_renew_72
      · skip
        have c_1 : ¬ 40 ≤ i := fun z => c_1 ((nI_leI (a := 40) (b := i) (by omega) (by omega)).mpr z)
        refine lv_aload_n hx hb dR_renew_8 rfl (lv_at hl 2 rfl) ?_
        refine lv_iload_n hx hb dR_renew_9 rfl (lv_at hl 3 rfl) ?_
        have hPc := hP.sub (ws' := [(q, .inr (1, [.ref q1, .ref q2, .long cb])), (q1, .inl (cL, 40, .inr (.inl sb))), (q2, .inl (cL, 40, .inr (.inl gb)))]) [5, 6, 7] rfl
        have hKc := hK
        refine vp_callSl (W.runV (As := [.int (nI i)]) (rest := []) ⟨hx, hb, hml, hown, hT⟩ (c_stepsOf l dC dI q q1 q2 cL sb gb cb i (by omega)) (cwV 1 hT g_R_15 rfl rfl rfl (by decide +kernel) ⟨Nat.le_of_ble_eq_true rfl, Nat.le_of_ble_eq_true rfl⟩) (bw_pV hPc hKc hN (ci := 1) (q0 := 0) rfl rfl) rfl rfl hl.1 rfl (lv_room (Nat.le_of_ble_eq_true rfl)) dR_renew_10 ⟨Nat.le_of_ble_eq_true rfl, Nat.le_of_ble_eq_true rfl⟩) (fun r_2 hr_2 => ?_)
        rw [hr_2]; clear hr_2
        refine lv_aload_n hx hb dR_renew_13 rfl (lv_at hl 1 rfl) ?_
        refine lv_iload_n hx hb dR_renew_14 rfl (lv_at hl 3 rfl) ?_
        have hPc := hP.sub (ws' := [(o, .inr (1, [.ref o1, .ref o2, .long co])), (o1, .inl (cL, 40, .inr (.inl so))), (o2, .inl (cL, 40, .inr (.inl go)))]) [2, 3, 4] rfl
        have hKc := hK
        refine vp_callSl (W.runV (As := [.int (nI i)]) (rest := [.long (sb i)]) ⟨hx, hb, hml, hown, hT⟩ (c_gated l dC dI o o1 o2 cL so go co i (by omega)) (cwV 1 hT g_R_21 rfl rfl rfl (by decide +kernel) ⟨Nat.le_of_ble_eq_true rfl, Nat.le_of_ble_eq_true rfl⟩) (bw_pV hPc hKc hN (ci := 1) (q0 := 0) rfl rfl) rfl rfl hl.1 rfl (lv_room (Nat.le_of_ble_eq_true rfl)) dR_renew_15 ⟨Nat.le_of_ble_eq_true rfl, Nat.le_of_ble_eq_true rfl⟩) (fun r_3 hr_3 => ?_)
        rw [hr_3]; clear hr_3
        refine lv_land hx hb dR_renew_18 ?_
        refine lv_lstore (lv' := [(4, .long ((sb i) &&& (go i))), (0, .ref h), (1, .ref o), (2, .ref q), (3, .int (nI i))]) hx hb dR_renew_19 hl (by decide) rfl (fun ls hl => ?_)
        refine lv_aload_n hx hb dR_renew_21 rfl (lv_at hl 3 rfl) ?_
        refine lv_lload hx hb dR_renew_22 (lv_at hl 0 rfl) ?_
        refine lv_aload_n hx hb dR_renew_24 rfl (lv_at hl 2 rfl) ?_
        have hPc := hP.sub (ws' := [(o, .inr (1, [.ref o1, .ref o2, .long co])), (o1, .inl (cL, 40, .inr (.inl so))), (o2, .inl (cL, 40, .inr (.inl go)))]) [2, 3, 4] rfl
        have hKc := hK
        refine vp_callSl (W.runV (As := []) (rest := [.long ((sb i) &&& (go i)), .ref q]) ⟨hx, hb, hml, hown, hT⟩ (c_covered l dC dI o o1 o2 cL so go co) (cwV 0 hT g_R_24 rfl rfl rfl (by decide +kernel) ⟨Nat.le_of_ble_eq_true rfl, Nat.le_of_ble_eq_true rfl⟩) (bw_pV hPc hKc hN (ci := 1) (q0 := 0) rfl rfl) rfl rfl hl.1 rfl (lv_room (Nat.le_of_ble_eq_true rfl)) dR_renew_25 ⟨Nat.le_of_ble_eq_true rfl, Nat.le_of_ble_eq_true rfl⟩) (fun r_4 hr_4 => ?_)
        rw [hr_4]; clear hr_4
        refine lv_iload_n hx hb dR_renew_28 rfl (lv_at hl 4 rfl) ?_
        refine vp_callSl (bw_C (va_runSN (As := [.int (nI i)]) (rest := [.long co, .long ((sb i) &&& (go i)), .ref q]) ⟨hx, hb, hml, hown, hT⟩ (c_bit l i) ⟨va_cnB 1 hT (bw_gi gn_B_bit) rfl rfl rfl hN.2.2.2.1 (hT _ hw_18) (by decide +kernel) ⟨Nat.le_of_ble_eq_true rfl, Nat.le_of_ble_eq_true rfl⟩, hT _ hw_97, trivial⟩ preEq rfl rfl hl.1 rfl (lv_room (Nat.le_of_ble_eq_true rfl)) dR_renew_29 ⟨Nat.le_of_ble_eq_true rfl, Nat.le_of_ble_eq_true rfl⟩)) (fun r_5 hr_5 => ?_)
        rw [hr_5]; clear hr_5
        refine lv_ldc2 (v := (-1)) hx hb hown (hT _ hw_177) dR_renew_32 ?_
        refine lv_lxor hx hb dR_renew_35 ?_
        refine lv_land hx hb dR_renew_36 ?_
        have hPc := hP.sub (ws' := [(q, .inr (1, [.ref q1, .ref q2, .long cb])), (q1, .inl (cL, 40, .inr (.inl sb))), (q2, .inl (cL, 40, .inr (.inl gb)))]) [5, 6, 7] rfl
        have hKc := hK
        refine vp_callSl (W.runV (As := [.long ((sb i) &&& (go i)), .long (co &&& ((bw_b i) ^^^ (-1)))]) (rest := []) ⟨hx, hb, hml, hown, hT⟩ (c_flood l dC dI q q1 q2 cL sb gb cb ((sb i) &&& (go i)) (co &&& ((bw_b i) ^^^ (-1)))) (cwV 2 hT g_R_33 rfl rfl rfl (by decide +kernel) ⟨Nat.le_of_ble_eq_true rfl, Nat.le_of_ble_eq_true rfl⟩) (bw_pV hPc hKc hN (ci := 1) (q0 := 0) rfl rfl) rfl rfl hl.1 rfl (lv_room (Nat.le_of_ble_eq_true rfl)) dR_renew_37 ⟨Nat.le_of_ble_eq_true rfl, Nat.le_of_ble_eq_true rfl⟩) (fun r_6 hr_6 => ?_)
        rw [hr_6]; clear hr_6
        refine lv_lstore (lv' := [(6, .long (bw_flood sb ((sb i) &&& (go i)) (co &&& ((bw_b i) ^^^ (-1))))), (4, .long ((sb i) &&& (go i))), (0, .ref h), (1, .ref o), (2, .ref q), (3, .int (nI i))]) hx hb dR_renew_40 hl (by decide) rfl (fun ls hl => ?_)
        refine lv_aload_n hx hb dR_renew_42 rfl (lv_at hl 2 rfl) ?_
        refine va_get (D := (dC, dI)) (ci := 0) (v := .ref a1) (C := RR) (T := TR) (N := 1) hx hb hT inR hown hK hP 0 rfl rfl 0 (by decide) (hT _ hw_60) (fun _ h9 => h9) rfl dR_renew_43 ?_
        refine lv_iload_n hx hb dR_renew_46 rfl (lv_at hl 5 rfl) ?_
        refine lv_lload hx hb dR_renew_47 (lv_at hl 1 rfl) ?_
        refine lv_lconst (v := 0) hx hb dR_renew_49 (by decide) ?_
        refine W.lcmp hx hb dR_renew_50 ?_
        refine lv_if_ne (tgt := 58) hx hb dR_renew_51 (by decide) (fun c_7 => ?_) (fun c_7 => ?_)
        · skip
          have c_7 := fun z => c_7 (bw_cmp0.mpr z)
          refine lv_lload hx hb dR_renew_58 (lv_at hl 0 rfl) ?_
          refine lv_iload_n hx hb dR_renew_60 rfl (lv_at hl 5 rfl) ?_
          refine vp_callSl (bw_C (va_runSN (As := [.int (nI i)]) (rest := [.long (bw_flood sb ((sb i) &&& (go i)) (co &&& ((bw_b i) ^^^ (-1)))), .int (nI i), .ref a1]) ⟨hx, hb, hml, hown, hT⟩ (c_bit l i) ⟨va_cnB 1 hT (bw_gi gn_B_bit) rfl rfl rfl hN.2.2.2.1 (hT _ hw_18) (by decide +kernel) ⟨Nat.le_of_ble_eq_true rfl, Nat.le_of_ble_eq_true rfl⟩, hT _ hw_97, trivial⟩ preEq rfl rfl hl.1 rfl (lv_room (Nat.le_of_ble_eq_true rfl)) dR_renew_61 ⟨Nat.le_of_ble_eq_true rfl, Nat.le_of_ble_eq_true rfl⟩)) (fun r_8 hr_8 => ?_)
          rw [hr_8]; clear hr_8
          refine lv_lor hx hb dR_renew_64 ?_
          refine bw_last hx hb hK hP hD hS 1 0 (k := i) rfl rfl (by omega) (by decide) dR_renew_65 (fun H locs hP hD hS => ?_)
          have hP : va_P (dC, dI) vwCl [(h, .inr (0, [.ref a1])), (a1, .inl (cL, 40, .inr (.inl (vp_updL g i ((bw_flood sb ((sb i) &&& (go i)) (co &&& ((bw_b i) ^^^ (-1)))) ||| (bw_b i)))))), (o, .inr (1, [.ref o1, .ref o2, .long co])), (o1, .inl (cL, 40, .inr (.inl so))), (o2, .inl (cL, 40, .inr (.inl go))), (q, .inr (1, [.ref q1, .ref q2, .long cb])), (q1, .inl (cL, 40, .inr (.inl sb))), (q2, .inl (cL, 40, .inr (.inl gb)))] H := hP
          have hD : va_D A [(h, .inr (0, [.ref a1])), (a1, .inl (cL, 40, .inr (.inl (vp_updL g i ((bw_flood sb ((sb i) &&& (go i)) (co &&& ((bw_b i) ^^^ (-1)))) ||| (bw_b i)))))), (o, .inr (1, [.ref o1, .ref o2, .long co])), (o1, .inl (cL, 40, .inr (.inl so))), (o2, .inl (cL, 40, .inr (.inl go))), (q, .inr (1, [.ref q1, .ref q2, .long cb])), (q1, .inl (cL, 40, .inr (.inl sb))), (q2, .inl (cL, 40, .inr (.inl gb)))] := hD
          refine lv_iinc (v := nI (i + 1)) (lv' := [(3, .int (nI (i + 1))), (6, .long (bw_flood sb ((sb i) &&& (go i)) (co &&& ((bw_b i) ^^^ (-1))))), (4, .long ((sb i) &&& (go i))), (0, .ref h), (1, .ref o), (2, .ref q)]) hx hb dR_renew_66 hl (k := 5) rfl (nI_1 _) (by decide) rfl (fun ls hl => ?_)
          refine lv_goto (tgt := 2) hx hb dR_renew_69 (by decide) ?_
          exact ih_2 (i + 1) (vp_updL g i ((bw_flood sb ((sb i) &&& (go i)) (co &&& ((bw_b i) ^^^ (-1)))) ||| (bw_b i))) (by omega) (by omega) (by rw [eg]; refine bw_up_s _ bl i ?_; unfold bw_bl; first | (rw [if_pos c_7]; done) | (rw [if_neg c_7]; done)) H locs hP hD hS ls (lv_sub hl [3, 4, 5, 0] rfl)
        · skip
          have c_7 := bw_cmp0.mp c_7
          refine lv_lconst (v := 0) hx hb dR_renew_54 (by decide) ?_
          refine lv_goto (tgt := 65) hx hb dR_renew_55 (by decide) ?_
          refine bw_last hx hb hK hP hD hS 1 0 (k := i) rfl rfl (by omega) (by decide) dR_renew_65 (fun H locs hP hD hS => ?_)
          have hP : va_P (dC, dI) vwCl [(h, .inr (0, [.ref a1])), (a1, .inl (cL, 40, .inr (.inl (vp_updL g i 0)))), (o, .inr (1, [.ref o1, .ref o2, .long co])), (o1, .inl (cL, 40, .inr (.inl so))), (o2, .inl (cL, 40, .inr (.inl go))), (q, .inr (1, [.ref q1, .ref q2, .long cb])), (q1, .inl (cL, 40, .inr (.inl sb))), (q2, .inl (cL, 40, .inr (.inl gb)))] H := hP
          have hD : va_D A [(h, .inr (0, [.ref a1])), (a1, .inl (cL, 40, .inr (.inl (vp_updL g i 0)))), (o, .inr (1, [.ref o1, .ref o2, .long co])), (o1, .inl (cL, 40, .inr (.inl so))), (o2, .inl (cL, 40, .inr (.inl go))), (q, .inr (1, [.ref q1, .ref q2, .long cb])), (q1, .inl (cL, 40, .inr (.inl sb))), (q2, .inl (cL, 40, .inr (.inl gb)))] := hD
          refine lv_iinc (v := nI (i + 1)) (lv' := [(3, .int (nI (i + 1))), (6, .long (bw_flood sb ((sb i) &&& (go i)) (co &&& ((bw_b i) ^^^ (-1))))), (4, .long ((sb i) &&& (go i))), (0, .ref h), (1, .ref o), (2, .ref q)]) hx hb dR_renew_66 hl (k := 5) rfl (nI_1 _) (by decide) rfl (fun ls hl => ?_)
          refine lv_goto (tgt := 2) hx hb dR_renew_69 (by decide) ?_
          exact ih_2 (i + 1) (vp_updL g i 0) (by omega) (by omega) (by rw [eg]; refine bw_up_s _ bl i ?_; unfold bw_bl; first | (rw [if_pos c_7]; done) | (rw [if_neg c_7]; done)) H locs hP hD hS ls (lv_sub hl [3, 4, 5, 0] rfl)
  exact loop_2 41 0 bl (by omega) (by omega) ((bw_up_0 _ bl).symm) s.heap [] hP hD hS ls (lv_sub hl [1, 2, 3, 0] rfl)
set_option maxHeartbeats 4000000 in
set_option maxRecDepth 100000 in
theorem c_initS (l : Launch) (dC : Nat → ClassId) (dI : Nat → Nat → Nat) (h : Nat) (cL : ClassId) (sz : Nat) : Met l yS_init wsS_init ({ frames := 1, cells := 2, slots := 80, locals := 12 } : Room) (bw_Wr (dC, dI) [(cL, .long)] [(h, .inr (1, [.null, .null, .long 0]))] sz [.ref h]) (va_Qv (S := Nat × Nat) (fun _ => True) (fun (u : Nat × Nat) t => va_P (dC, dI) vwCl [(h, .inr (1, [.ref u.1, .ref u.2, .long 0])), (u.1, .inl (cL, 40, .inr (.inl (fun _ => 0)))), (u.2, .inl (cL, 40, .inr (.inl (fun _ => 0))))] t.heap ∧ va_D (va_A [(h, .inr (1, [.null, .null, .long 0]))] sz) [(h, .inr (1, [.ref u.1, .ref u.2, .long 0])), (u.1, .inl (cL, 40, .inr (.inl (fun _ => 0)))), (u.2, .inl (cL, 40, .inr (.inl (fun _ => 0))))]) (va_A [(h, .inr (1, [.null, .null, .long 0]))] sz)) 2 80 (va_A [(h, .inr (1, [.null, .null, .long 0]))] sz) := by
  refine Met.ofW (cc := cS_init) (maxL := 1) (ret := none) (by decide) rfl ?_
  intro p e s m args below meth c s₁ B hml hv
  obtain ⟨rfl, hsz, hP, hK, hN, hD0⟩ := hv
  have hx := B.exec
  have hb := B.bytes
  have hr := B.returns
  have hts := atoms_spec (ws := wsS_init) B.pre
  have hT : ∀ w ∈ bwB, w.before _ s = true := fun w h => hts w (List.mem_cons_of_mem _ h)
  have hown : s.vm.findClass RS = some m.cls := findClass_of_methodNamed B.named
  have hlocks := B.notSynchronized
  have hin : meth.name = "<init>" := (name_of_methodNamed B.named B.method).1
  subst hsz
  have hD := hD0.self (sz := s.heap.size)
  generalize hAe : va_A [(h, .inr (1, [.null, .null, .long 0]))] s.heap.size = A at hD ⊢
  have hA : ∀ q : Nat, s.heap.size ≤ q → A q := fun q h => by rw [← hAe]; exact Or.inr h
  have hS : va_S A s.heap s.heap [] := va_S.rf
  have hP : va_P (dC, dI) vwCl [(h, .inr (1, [.null, .null, .long 0]))] s.heap := hP
  have hl := lv_entry ([.ref h]) (n := 1) (Nat.le_of_ble_eq_true rfl)
  rw [lg_entry_eq]
  generalize (lg_sl ([.ref h]) ++ List.replicate (1 - (lg_sl ([.ref h])).length) Slot.unset).toArray = ls at hl ⊢
  have hl : lv_has ls 1 [(0, .ref h)] := hl
  refine lv_aload_n hx hb dS_init_0 rfl (lv_at hl 0 rfl) ?_
  refine W.objInit hx hb hown (hT _ hw_41) (hT _ hw_34) (hT _ hw_35) rfl (by rw [hml]; exact hl.1) rfl dS_init_1 (Nat.le_of_ble_eq_true rfl) (Nat.le_of_ble_eq_true rfl) ?_
  refine W.eq (g2 := F0 m 4 ls []) rfl ?_
  refine lv_aload_n hx hb dS_init_4 rfl (lv_at hl 0 rfl) ?_
  refine lv_bipush (v := nI 40) hx hb dS_init_5 (by decide) ?_
  refine va_newa hx hb (hT _ hw_53) (atype := .long) (ty := .long) rfl hK hP hD hS hA (n := nI 40) (N' := 40) (a0 := (40, .inr (.inl (fun _ => 0)))) (fun cA => vp_cell_l cA 40 (fun _ => 0)) (by decide) (by decide) (by decide) (Nat.le_of_ble_eq_true rfl) (Nat.le_of_ble_eq_true rfl) dS_init_7 (fun w1 c9 H hK hP hD hS => ?_)
  have e9 := bw_cAl hK 0 1 rfl rfl
  subst e9
  have hK := hK.sub (tys' := [(cL, .long)]) [0] rfl
  have hP : va_P (dC, dI) vwCl [(h, .inr (1, [.null, .null, .long 0])), (w1, .inl (cL, 40, .inr (.inl (fun _ => 0))))] H := hP
  have hD : va_D A [(h, .inr (1, [.null, .null, .long 0])), (w1, .inl (cL, 40, .inr (.inl (fun _ => 0))))] := hD
  refine W.widen (k := 1) (n := 40) (by omega) (by omega) ?_
  refine va_putF (D := (dC, dI)) (ci := 1) (v := .ref w1) (ty := (.array .long)) (C := RS) (T := TS) (N := 3) hx hb hT inS tyS tokS nmS hown hK hP hD hS 0 rfl rfl 0 (by decide) (hT _ hw_42) (fun _ h9 => h9) rfl hin rfl (by decide +kernel) rfl rfl (Nat.le_of_ble_eq_true rfl) dS_init_9 (fun H locs hP hD hS => ?_)
  have hP : va_P (dC, dI) vwCl [(h, .inr (1, [.ref w1, .null, .long 0])), (w1, .inl (cL, 40, .inr (.inl (fun _ => 0))))] H := hP
  have hD : va_D A [(h, .inr (1, [.ref w1, .null, .long 0])), (w1, .inl (cL, 40, .inr (.inl (fun _ => 0))))] := hD
  refine lv_aload_n hx hb dS_init_12 rfl (lv_at hl 0 rfl) ?_
  refine lv_bipush (v := nI 40) hx hb dS_init_13 (by decide) ?_
  refine va_newa hx hb (hT _ hw_53) (atype := .long) (ty := .long) rfl hK hP hD hS hA (n := nI 40) (N' := 40) (a0 := (40, .inr (.inl (fun _ => 0)))) (fun cA => vp_cell_l cA 40 (fun _ => 0)) (by decide) (by decide) (by decide) (Nat.le_of_ble_eq_true rfl) (Nat.le_of_ble_eq_true rfl) dS_init_15 (fun w2 c9 H hK hP hD hS => ?_)
  have e9 := bw_cAl hK 0 1 rfl rfl
  subst e9
  have hK := hK.sub (tys' := [(cL, .long)]) [0] rfl
  have hP : va_P (dC, dI) vwCl [(h, .inr (1, [.ref w1, .null, .long 0])), (w1, .inl (cL, 40, .inr (.inl (fun _ => 0)))), (w2, .inl (cL, 40, .inr (.inl (fun _ => 0))))] H := hP
  have hD : va_D A [(h, .inr (1, [.ref w1, .null, .long 0])), (w1, .inl (cL, 40, .inr (.inl (fun _ => 0)))), (w2, .inl (cL, 40, .inr (.inl (fun _ => 0))))] := hD
  refine W.widen (k := 2) (n := 80) (by omega) (by omega) ?_
  refine va_putF (D := (dC, dI)) (ci := 1) (v := .ref w2) (ty := (.array .long)) (C := RS) (T := TS) (N := 3) hx hb hT inS tyS tokS nmS hown hK hP hD hS 0 rfl rfl 1 (by decide) (hT _ hw_43) (fun _ h9 => h9) rfl hin rfl (by decide +kernel) rfl rfl (Nat.le_of_ble_eq_true rfl) dS_init_17 (fun H locs hP hD hS => ?_)
  have hP : va_P (dC, dI) vwCl [(h, .inr (1, [.ref w1, .ref w2, .long 0])), (w1, .inl (cL, 40, .inr (.inl (fun _ => 0)))), (w2, .inl (cL, 40, .inr (.inl (fun _ => 0))))] H := hP
  have hD : va_D A [(h, .inr (1, [.ref w1, .ref w2, .long 0])), (w1, .inl (cL, 40, .inr (.inl (fun _ => 0)))), (w2, .inl (cL, 40, .inr (.inl (fun _ => 0))))] := hD
  refine lv_aload_n hx hb dS_init_20 rfl (lv_at hl 0 rfl) ?_
  refine lv_lconst (v := 0) hx hb dS_init_21 (by decide) ?_
  refine va_put (D := (dC, dI)) (ci := 1) (v := .long 0) (ty := .long) (C := RS) (T := TS) (N := 3) hx hb hT inS tyS tokS nmS hown hK hP hD hS 0 rfl rfl 2 (by decide) (hT _ hw_44) (fun _ h9 => h9) rfl (by decide +kernel) rfl rfl (Nat.le_of_ble_eq_true rfl) dS_init_22 (fun H locs hP hD hS => ?_)
  have hP : va_P (dC, dI) vwCl [(h, .inr (1, [.ref w1, .ref w2, .long 0])), (w1, .inl (cL, 40, .inr (.inl (fun _ => 0)))), (w2, .inl (cL, 40, .inr (.inl (fun _ => 0))))] H := hP
  have hD : va_D A [(h, .inr (1, [.ref w1, .ref w2, .long 0])), (w1, .inl (cL, 40, .inr (.inl (fun _ => 0)))), (w2, .inl (cL, 40, .inr (.inl (fun _ => 0))))] := hD
  exact W.vret hx hb hr (fun t9 ht9 hW9 => ⟨⟨(w1, w2), rfl, trivial, by rw [ht9]; exact hP, hD⟩, hS.F ht9⟩) hS.2.2 dS_init_25
set_option maxHeartbeats 4000000 in
set_option maxRecDepth 100000 in
theorem c_initR (l : Launch) (dC : Nat → ClassId) (dI : Nat → Nat → Nat) (h : Nat) (cL : ClassId) (sz : Nat) : Met l yR_init wsR_init ({ frames := 1, cells := 1, slots := 40, locals := 12 } : Room) (bw_Wr (dC, dI) [(cL, .long)] [(h, .inr (0, [.null]))] sz [.ref h]) (va_Qv (S := Nat) (fun _ => True) (fun (u : Nat) t => va_P (dC, dI) vwCl [(h, .inr (0, [.ref u])), (u, .inl (cL, 40, .inr (.inl (fun _ => 0))))] t.heap ∧ va_D (va_A [(h, .inr (0, [.null]))] sz) [(h, .inr (0, [.ref u])), (u, .inl (cL, 40, .inr (.inl (fun _ => 0))))]) (va_A [(h, .inr (0, [.null]))] sz)) 1 40 (va_A [(h, .inr (0, [.null]))] sz) := by
  refine Met.ofW (cc := cR_init) (maxL := 1) (ret := none) (by decide) rfl ?_
  intro p e s m args below meth c s₁ B hml hv
  obtain ⟨rfl, hsz, hP, hK, hN, hD0⟩ := hv
  have hx := B.exec
  have hb := B.bytes
  have hr := B.returns
  have hts := atoms_spec (ws := wsR_init) B.pre
  have hT : ∀ w ∈ bwB, w.before _ s = true := fun w h => hts w (List.mem_cons_of_mem _ h)
  have hown : s.vm.findClass RR = some m.cls := findClass_of_methodNamed B.named
  have hlocks := B.notSynchronized
  have hin : meth.name = "<init>" := (name_of_methodNamed B.named B.method).1
  subst hsz
  have hD := hD0.self (sz := s.heap.size)
  generalize hAe : va_A [(h, .inr (0, [.null]))] s.heap.size = A at hD ⊢
  have hA : ∀ q : Nat, s.heap.size ≤ q → A q := fun q h => by rw [← hAe]; exact Or.inr h
  have hS : va_S A s.heap s.heap [] := va_S.rf
  have hP : va_P (dC, dI) vwCl [(h, .inr (0, [.null]))] s.heap := hP
  have hl := lv_entry ([.ref h]) (n := 1) (Nat.le_of_ble_eq_true rfl)
  rw [lg_entry_eq]
  generalize (lg_sl ([.ref h]) ++ List.replicate (1 - (lg_sl ([.ref h])).length) Slot.unset).toArray = ls at hl ⊢
  have hl : lv_has ls 1 [(0, .ref h)] := hl
  refine lv_aload_n hx hb dR_init_0 rfl (lv_at hl 0 rfl) ?_
  refine W.objInit hx hb hown (hT _ hw_59) (hT _ hw_34) (hT _ hw_35) rfl (by rw [hml]; exact hl.1) rfl dR_init_1 (Nat.le_of_ble_eq_true rfl) (Nat.le_of_ble_eq_true rfl) ?_
  refine W.eq (g2 := F0 m 4 ls []) rfl ?_
  refine lv_aload_n hx hb dR_init_4 rfl (lv_at hl 0 rfl) ?_
  refine lv_bipush (v := nI 40) hx hb dR_init_5 (by decide) ?_
  refine va_newa hx hb (hT _ hw_53) (atype := .long) (ty := .long) rfl hK hP hD hS hA (n := nI 40) (N' := 40) (a0 := (40, .inr (.inl (fun _ => 0)))) (fun cA => vp_cell_l cA 40 (fun _ => 0)) (by decide) (by decide) (by decide) (Nat.le_of_ble_eq_true rfl) (Nat.le_of_ble_eq_true rfl) dR_init_7 (fun w1 c9 H hK hP hD hS => ?_)
  have e9 := bw_cAl hK 0 1 rfl rfl
  subst e9
  have hK := hK.sub (tys' := [(cL, .long)]) [0] rfl
  have hP : va_P (dC, dI) vwCl [(h, .inr (0, [.null])), (w1, .inl (cL, 40, .inr (.inl (fun _ => 0))))] H := hP
  have hD : va_D A [(h, .inr (0, [.null])), (w1, .inl (cL, 40, .inr (.inl (fun _ => 0))))] := hD
  refine W.widen (k := 1) (n := 40) (by omega) (by omega) ?_
  refine va_putF (D := (dC, dI)) (ci := 0) (v := .ref w1) (ty := (.array .long)) (C := RR) (T := TR) (N := 1) hx hb hT inR tyR tokR nmR hown hK hP hD hS 0 rfl rfl 0 (by decide) (hT _ hw_60) (fun _ h9 => h9) rfl hin rfl (by decide +kernel) rfl rfl (Nat.le_of_ble_eq_true rfl) dR_init_9 (fun H locs hP hD hS => ?_)
  have hP : va_P (dC, dI) vwCl [(h, .inr (0, [.ref w1])), (w1, .inl (cL, 40, .inr (.inl (fun _ => 0))))] H := hP
  have hD : va_D A [(h, .inr (0, [.ref w1])), (w1, .inl (cL, 40, .inr (.inl (fun _ => 0))))] := hD
  exact W.vret hx hb hr (fun t9 ht9 hW9 => ⟨⟨w1, rfl, trivial, by rw [ht9]; exact hP, hD⟩, hS.F ht9⟩) hS.2.2 dR_init_12
end
section
set_option maxHeartbeats 4000000 in
set_option maxRecDepth 100000 in
theorem c_forget (l : Launch) (dC : Nat → ClassId) (dI : Nat → Nat → Nat) (x t1 o q r : Nat) (T : Int64) (f1 f2 : Int32) (sz : Nat) : Met l yB_forgetAnswers wsB_forgetAnswers ({ frames := 0, cells := 0, slots := 0, locals := 0 } : Room) (bw_Wr (dC, dI) [] [(x, .inr (2, [.long T, .ref t1, .ref o, .ref q, .ref r, .int f1, .int f2]))] sz [.ref x]) (va_Qv (S := Unit) (fun _ => True) (fun (_ : Unit) t => va_P (dC, dI) vwCl [(x, .inr (2, [.long T, .ref t1, .ref o, .ref q, .ref r, .int 1, .int 1]))] t.heap ∧ va_D (va_A [(x, .inr (2, [.long T, .ref t1, .ref o, .ref q, .ref r, .int f1, .int f2]))] sz) [(x, .inr (2, [.long T, .ref t1, .ref o, .ref q, .ref r, .int 1, .int 1]))]) (va_A [(x, .inr (2, [.long T, .ref t1, .ref o, .ref q, .ref r, .int f1, .int f2]))] sz)) 0 0 (va_A [(x, .inr (2, [.long T, .ref t1, .ref o, .ref q, .ref r, .int f1, .int f2]))] sz) := by
  refine Met.ofW (cc := cB_forgetAnswers) (maxL := 1) (ret := none) (by decide) rfl ?_
  intro p e s m args below meth c s₁ B hml hv
  obtain ⟨rfl, hsz, hP, hK, hN, hD0⟩ := hv
  have hx := B.exec
  have hb := B.bytes
  have hr := B.returns
  have hts := atoms_spec (ws := wsB_forgetAnswers) B.pre
  have hT : ∀ w ∈ bwB, w.before _ s = true := fun w h => hts w (List.mem_cons_of_mem _ h)
  have hown : s.vm.findClass RB = some m.cls := findClass_of_methodNamed B.named
  have hlocks := B.notSynchronized
  subst hsz
  have hD := hD0.self (sz := s.heap.size)
  generalize hAe : va_A [(x, .inr (2, [.long T, .ref t1, .ref o, .ref q, .ref r, .int f1, .int f2]))] s.heap.size = A at hD ⊢
  have hA : ∀ q : Nat, s.heap.size ≤ q → A q := fun q h => by rw [← hAe]; exact Or.inr h
  have hS : va_S A s.heap s.heap [] := va_S.rf
  have hP : va_P (dC, dI) vwCl [(x, .inr (2, [.long T, .ref t1, .ref o, .ref q, .ref r, .int f1, .int f2]))] s.heap := hP
  have hl := lv_entry ([.ref x]) (n := 1) (Nat.le_of_ble_eq_true rfl)
  rw [lg_entry_eq]
  generalize (lg_sl ([.ref x]) ++ List.replicate (1 - (lg_sl ([.ref x])).length) Slot.unset).toArray = ls at hl ⊢
  have hl : lv_has ls 1 [(0, .ref x)] := hl
  refine lv_aload_n hx hb dB_forgetAnswers_0 rfl (lv_at hl 0 rfl) ?_
  refine lv_iconst (v := 1) hx hb dB_forgetAnswers_1 (by decide) ?_
  refine va_put (D := (dC, dI)) (ci := 2) (v := .int 1) (ty := .boolean) (C := RB) (T := TB) (N := 7) hx hb hT inB tyB tokB nmB hown hK hP hD hS 0 rfl rfl 5 (by decide) (hT _ hw_69) (fun _ h9 => h9) rfl (by decide +kernel) rfl rfl (Nat.le_of_ble_eq_true rfl) dB_forgetAnswers_2 (fun H locs hP hD hS => ?_)
  have hP : va_P (dC, dI) vwCl [(x, .inr (2, [.long T, .ref t1, .ref o, .ref q, .ref r, .int 1, .int f2]))] H := hP
  have hD : va_D A [(x, .inr (2, [.long T, .ref t1, .ref o, .ref q, .ref r, .int 1, .int f2]))] := hD
  refine lv_aload_n hx hb dB_forgetAnswers_5 rfl (lv_at hl 0 rfl) ?_
  refine lv_iconst (v := 1) hx hb dB_forgetAnswers_6 (by decide) ?_
  refine va_put (D := (dC, dI)) (ci := 2) (v := .int 1) (ty := .boolean) (C := RB) (T := TB) (N := 7) hx hb hT inB tyB tokB nmB hown hK hP hD hS 0 rfl rfl 6 (by decide) (hT _ hw_70) (fun _ h9 => h9) rfl (by decide +kernel) rfl rfl (Nat.le_of_ble_eq_true rfl) dB_forgetAnswers_7 (fun H locs hP hD hS => ?_)
  have hP : va_P (dC, dI) vwCl [(x, .inr (2, [.long T, .ref t1, .ref o, .ref q, .ref r, .int 1, .int 1]))] H := hP
  have hD : va_D A [(x, .inr (2, [.long T, .ref t1, .ref o, .ref q, .ref r, .int 1, .int 1]))] := hD
  have hP9 := hP.sub (ws' := [(x, .inr (2, [.long T, .ref t1, .ref o, .ref q, .ref r, .int 1, .int 1]))]) [0] rfl
  have hD9 := hD.sub (ws' := [(x, .inr (2, [.long T, .ref t1, .ref o, .ref q, .ref r, .int 1, .int 1]))]) [0] (by decide) rfl
  exact W.vret hx hb hr (fun t9 ht9 hW9 => ⟨⟨(), rfl, trivial, by rw [ht9]; exact hP9, by exact hD9⟩, hS.F ht9⟩) hS.2.2 dB_forgetAnswers_10
set_option maxHeartbeats 4000000 in
set_option maxRecDepth 100000 in
theorem c_isTold1 (l : Launch) (dC : Nat → ClassId) (dI : Nat → Nat → Nat) (x t1 o q r : Nat) (T : Int64) (f1 f2 : Int32) (k : Nat) (hk : k < 40) : Met l yB_isTold wsB_isTold ({ frames := 2, cells := 0, slots := 0, locals := 42 } : Room) (bw_Ro (dC, dI) [] [(x, .inr (2, [.long T, .ref t1, .ref o, .ref q, .ref r, .int f1, .int f2]))] [.ref x, .int (nI k)]) (vp_Si (fun r => r = bw_i (bw_m T k))) 0 0 (fun _ => False) := by
  refine Met.ofW (cc := cB_isTold) (maxL := 2) (ret := (some .boolean)) (by decide) rfl ?_
  intro p e s m args below meth c s₁ B hml hv
  obtain ⟨rfl, hP, hK, hN⟩ := hv
  have hx := B.exec
  have hb := B.bytes
  have hr := B.returns
  have hts := atoms_spec (ws := wsB_isTold) B.pre
  have hT : ∀ w ∈ bwB, w.before _ s = true := fun w h => hts w (List.mem_cons_of_mem _ h)
  have hown : s.vm.findClass RB = some m.cls := findClass_of_methodNamed B.named
  have hlocks := B.notSynchronized
  have hl := lv_entry ([.ref x, .int (nI k)]) (n := 2) (Nat.le_of_ble_eq_true rfl)
  rw [lg_entry_eq]
  generalize (lg_sl ([.ref x, .int (nI k)]) ++ List.replicate (2 - (lg_sl ([.ref x, .int (nI k)])).length) Slot.unset).toArray = ls at hl ⊢
  have hl : lv_has ls 2 [(0, .ref x), (1, .int (nI k))] := hl
  refine lv_iload_n hx hb dB_isTold_0 rfl (lv_at hl 1 rfl) ?_
  refine vp_callSi (W.runS (As := [.int (nI k)]) (rest := []) ⟨hx, hb, hml, hown, hT⟩ (c_isB1 l k (by omega)) (cwS 1 hT g_B_41 rfl rfl rfl (by decide +kernel) ⟨Nat.le_of_ble_eq_true rfl, Nat.le_of_ble_eq_true rfl⟩) preEq rfl rfl hl.1 rfl (lv_room (Nat.le_of_ble_eq_true rfl)) dB_isTold_1 ⟨Nat.le_of_ble_eq_true rfl, Nat.le_of_ble_eq_true rfl⟩) (fun r_1 hr_1 => ?_)
  rw [hr_1]; clear hr_1
  refine lv_if_eq (tgt := 22) hx hb dB_isTold_4 (by decide) (fun c_2 => ?_) (fun c_2 => ?_)
  · skip
    exact absurd c_2 (by decide)
  · skip
    refine lv_aload_n hx hb dB_isTold_7 rfl (lv_at hl 0 rfl) ?_
    refine va_get (D := (dC, dI)) (ci := 2) (v := .long T) (C := RB) (T := TB) (N := 7) hx hb hT inB hown hK hP 0 rfl rfl 0 (by decide) (hT _ hw_64) (fun _ h9 => h9) rfl dB_isTold_8 ?_
    refine lv_iload_n hx hb dB_isTold_11 rfl (lv_at hl 1 rfl) ?_
    refine vp_callSi (W.runS (As := [.long T, .int (nI k)]) (rest := []) ⟨hx, hb, hml, hown, hT⟩ (c_has l T k (by omega)) (cwS 2 hT g_B_45 rfl rfl rfl (by decide +kernel) ⟨Nat.le_of_ble_eq_true rfl, Nat.le_of_ble_eq_true rfl⟩) preEq rfl rfl hl.1 rfl (lv_room (Nat.le_of_ble_eq_true rfl)) dB_isTold_12 ⟨Nat.le_of_ble_eq_true rfl, Nat.le_of_ble_eq_true rfl⟩) (fun r_3 hr_3 => ?_)
    rw [hr_3]; clear hr_3
    refine lv_if_eq (tgt := 22) hx hb dB_isTold_15 (by decide) (fun c_4 => ?_) (fun c_4 => ?_)
    · skip
      have c_4 := bw_i0.mp c_4
      refine lv_iconst (v := 0) hx hb dB_isTold_22 (by decide) ?_
      exact W.zret (v := 0) hx hb hr rfl (fun t9 ht9 hW9 => ⟨_, rfl, (by first | exact (bw_iT c_4).symm | exact (bw_iF c_4).symm), ht9⟩) (fun q hq => nomatch hq) dB_isTold_23
    · skip
      have c_4 := bw_in0 c_4
      refine lv_iconst (v := 1) hx hb dB_isTold_18 (by decide) ?_
      refine lv_goto (tgt := 23) hx hb dB_isTold_19 (by decide) ?_
      exact W.zret (v := 1) hx hb hr rfl (fun t9 ht9 hW9 => ⟨_, rfl, (by first | exact (bw_iT c_4).symm | exact (bw_iF c_4).symm), ht9⟩) (fun q hq => nomatch hq) dB_isTold_23
set_option maxHeartbeats 4000000 in
set_option maxRecDepth 100000 in
theorem c_isTold0 (l : Launch) (dC : Nat → ClassId) (dI : Nat → Nat → Nat) (x t1 o q r : Nat) (T : Int64) (f1 f2 : Int32) (b : Int32) (hb9 : ∀ k, k < 40 → ¬ b = nI k) : Met l yB_isTold wsB_isTold ({ frames := 1, cells := 0, slots := 0, locals := 20 } : Room) (bw_Ro (dC, dI) [] [(x, .inr (2, [.long T, .ref t1, .ref o, .ref q, .ref r, .int f1, .int f2]))] [.ref x, .int b]) (vp_Si (fun r => r = 0)) 0 0 (fun _ => False) := by
  refine Met.ofW (cc := cB_isTold) (maxL := 2) (ret := (some .boolean)) (by decide) rfl ?_
  intro p e s m args below meth c s₁ B hml hv
  obtain ⟨rfl, hP, hK, hN⟩ := hv
  have hx := B.exec
  have hb := B.bytes
  have hr := B.returns
  have hts := atoms_spec (ws := wsB_isTold) B.pre
  have hT : ∀ w ∈ bwB, w.before _ s = true := fun w h => hts w (List.mem_cons_of_mem _ h)
  have hown : s.vm.findClass RB = some m.cls := findClass_of_methodNamed B.named
  have hlocks := B.notSynchronized
  have hl := lv_entry ([.ref x, .int b]) (n := 2) (Nat.le_of_ble_eq_true rfl)
  rw [lg_entry_eq]
  generalize (lg_sl ([.ref x, .int b]) ++ List.replicate (2 - (lg_sl ([.ref x, .int b])).length) Slot.unset).toArray = ls at hl ⊢
  have hl : lv_has ls 2 [(0, .ref x), (1, .int b)] := hl
  refine lv_iload_n hx hb dB_isTold_0 rfl (lv_at hl 1 rfl) ?_
  refine vp_callSi (W.runS (As := [.int b]) (rest := []) ⟨hx, hb, hml, hown, hT⟩ (c_isB0 l b hb9) (cwS 1 hT g_B_41 rfl rfl rfl (by decide +kernel) ⟨Nat.le_of_ble_eq_true rfl, Nat.le_of_ble_eq_true rfl⟩) preEq rfl rfl hl.1 rfl (lv_room (Nat.le_of_ble_eq_true rfl)) dB_isTold_1 ⟨Nat.le_of_ble_eq_true rfl, Nat.le_of_ble_eq_true rfl⟩) (fun r_1 hr_1 => ?_)
  rw [hr_1]; clear hr_1
  refine lv_if_eq (tgt := 22) hx hb dB_isTold_4 (by decide) (fun c_2 => ?_) (fun c_2 => ?_)
  · skip
    refine lv_iconst (v := 0) hx hb dB_isTold_22 (by decide) ?_
    exact W.zret (v := 0) hx hb hr rfl (fun t9 ht9 hW9 => ⟨_, rfl, rfl, ht9⟩) (fun q hq => nomatch hq) dB_isTold_23
  · skip
    exact absurd rfl c_2
set_option maxHeartbeats 4000000 in
set_option maxRecDepth 100000 in
theorem c_ends (l : Launch) (dC : Nat → ClassId) (dI : Nat → Nat → Nat) (x t1 o q r : Nat) (cI : ClassId) (T : Int64) (tc : Nat → Int32) (f1 f2 : Int32) : Met l yB_ends wsB_ends ({ frames := 2, cells := 0, slots := 0, locals := 42 } : Room) (bw_Ro (dC, dI) [(cI, .int)] [(x, .inr (2, [.long T, .ref t1, .ref o, .ref q, .ref r, .int f1, .int f2])), (t1, .inl (cI, 40, .inl tc))] [.ref x]) (vp_Sl (fun r => r = bw_ends T tc)) 0 0 (fun _ => False) := by
  refine Met.ofW (cc := cB_ends) (maxL := 4) (ret := (some .long)) (by decide) rfl ?_
  intro p e s m args below meth c s₁ B hml hv
  obtain ⟨rfl, hP, hK, hN⟩ := hv
  have hx := B.exec
  have hb := B.bytes
  have hr := B.returns
  have hts := atoms_spec (ws := wsB_ends) B.pre
  have hT : ∀ w ∈ bwB, w.before _ s = true := fun w h => hts w (List.mem_cons_of_mem _ h)
  have hown : s.vm.findClass RB = some m.cls := findClass_of_methodNamed B.named
  have hlocks := B.notSynchronized
  have hl := lv_entry ([.ref x]) (n := 4) (Nat.le_of_ble_eq_true rfl)
  rw [lg_entry_eq]
  generalize (lg_sl ([.ref x]) ++ List.replicate (4 - (lg_sl ([.ref x])).length) Slot.unset).toArray = ls at hl ⊢
  have hl : lv_has ls 4 [(0, .ref x)] := hl
  refine lv_lconst (v := 0) hx hb dB_ends_0 (by decide) ?_
  refine lv_lstore_n (lv' := [(1, .long 0), (0, .ref x)]) hx hb dB_ends_1 rfl hl (by decide) rfl (fun ls hl => ?_)
  refine lv_iconst (v := nI 0) hx hb dB_ends_2 (by decide) ?_
  refine lv_istore_n (lv' := [(3, .int (nI 0)), (1, .long 0), (0, .ref x)]) hx hb dB_ends_3 rfl hl (by decide) rfl (fun ls hl => ?_)
  have loop_4 : ∀ (n_4 : Nat) (i : Nat) (acc : Int64), i ≤ 40 → 40 < i + n_4 → acc = bw_F (fun b => bw_m T b && decide (tc b = 0)) bw_b 0 i → ∀ (ls : Array Slot), lv_has ls 4 [(0, .ref x), (1, .long acc), (3, .int (nI i))] → W p l e (headSpec wsB_ends ({ frames := 2, cells := 0, slots := 0, locals := 42 } : Room)).room s m ([.ref x] : List Value).toArray below meth c s.heap [] 0 0 (MQ below (vp_Sl (fun r => r = bw_ends T tc)) ([.ref x] : List Value).toArray s 0 0 (fun _ => False)) (F0 m 4 ls []) := by
    intro n_4
    induction n_4 with
    | zero => intro i acc hii hfi ea; exfalso; omega
    | succ n_4 ih_4 =>
      intro i acc hii hfi ea ls hl
      refine lv_iload_n hx hb dB_ends_4 rfl (lv_at hl 2 rfl) ?_
      refine lv_bipush (v := nI 40) hx hb dB_ends_5 (by decide) ?_
      refine lv_icmp_ge (tgt := 43) hx hb dB_ends_7 (by decide) (fun c_1 => ?_) (fun c_1 => ?_)
      · skip
        have c_1 : 40 ≤ i := (nI_leI (a := 40) (b := i) (by omega) (by omega)).mp c_1
        refine lv_lload_n hx hb dB_ends_43 rfl (lv_at hl 1 rfl) ?_
        exact W.lret (v := acc) hx hb hr (fun t9 ht9 hW9 => ⟨_, rfl, (by rw [ea, show i = 40 by omega]; rfl), ht9⟩) (fun q hq => nomatch hq) dB_ends_44
      · skip
        have c_1 : ¬ 40 ≤ i := fun z => c_1 ((nI_leI (a := 40) (b := i) (by omega) (by omega)).mpr z)
        refine lv_aload_n hx hb dB_ends_10 rfl (lv_at hl 0 rfl) ?_
        refine va_get (D := (dC, dI)) (ci := 2) (v := .long T) (C := RB) (T := TB) (N := 7) hx hb hT inB hown hK hP 0 rfl rfl 0 (by decide) (hT _ hw_64) (fun _ h9 => h9) rfl dB_ends_11 ?_
        refine lv_iload_n hx hb dB_ends_14 rfl (lv_at hl 2 rfl) ?_
        refine vp_callSi (W.runS (As := [.long T, .int (nI i)]) (rest := []) ⟨hx, hb, hml, hown, hT⟩ (c_has l T i (by omega)) (cwS 2 hT g_B_45 rfl rfl rfl (by decide +kernel) ⟨Nat.le_of_ble_eq_true rfl, Nat.le_of_ble_eq_true rfl⟩) preEq rfl rfl hl.1 rfl (lv_room (Nat.le_of_ble_eq_true rfl)) dB_ends_15 ⟨Nat.le_of_ble_eq_true rfl, Nat.le_of_ble_eq_true rfl⟩) (fun r_2 hr_2 => ?_)
        rw [hr_2]; clear hr_2
        refine lv_if_eq (tgt := 37) hx hb dB_ends_18 (by decide) (fun c_3 => ?_) (fun c_3 => ?_)
        · skip
          have c_3 := bw_i0.mp c_3
          refine lv_iinc (v := nI (i + 1)) (lv' := [(3, .int (nI (i + 1))), (0, .ref x), (1, .long acc)]) hx hb dB_ends_37 hl (k := 2) rfl (nI_1 _) (by decide) rfl (fun ls hl => ?_)
          refine lv_goto (tgt := 4) hx hb dB_ends_40 (by decide) ?_
          exact ih_4 (i + 1) acc (by omega) (by omega) (by first | (rw [bw_F_t (c := fun b => bw_m T b && decide (tc b = 0)) (n := i) (bw_endT c_1 c_3), ← ea]; done) | (rw [bw_F_f (c := fun b => bw_m T b && decide (tc b = 0)) (n := i) (bw_endF1 c_3), ← ea]; done) | (rw [bw_F_f (c := fun b => bw_m T b && decide (tc b = 0)) (n := i) (bw_endF2 c_3), ← ea]; done) ) ls (lv_sub hl [1, 2, 0] rfl)
        · skip
          have c_3 := bw_in0 c_3
          refine lv_aload_n hx hb dB_ends_21 rfl (lv_at hl 0 rfl) ?_
          refine va_get (D := (dC, dI)) (ci := 2) (v := .ref t1) (C := RB) (T := TB) (N := 7) hx hb hT inB hown hK hP 0 rfl rfl 1 (by decide) (hT _ hw_65) (fun _ h9 => h9) rfl dB_ends_22 ?_
          refine lv_iload_n hx hb dB_ends_25 rfl (lv_at hl 2 rfl) ?_
          refine bw_iald hx hb hK hP 1 0 (k := i) rfl rfl (by omega) (by decide) dB_ends_26 ?_
          refine lv_if_ne (tgt := 37) hx hb dB_ends_27 (by decide) (fun c_4 => ?_) (fun c_4 => ?_)
          · skip
            refine lv_iinc (v := nI (i + 1)) (lv' := [(3, .int (nI (i + 1))), (0, .ref x), (1, .long acc)]) hx hb dB_ends_37 hl (k := 2) rfl (nI_1 _) (by decide) rfl (fun ls hl => ?_)
            refine lv_goto (tgt := 4) hx hb dB_ends_40 (by decide) ?_
            exact ih_4 (i + 1) acc (by omega) (by omega) (by first | (rw [bw_F_t (c := fun b => bw_m T b && decide (tc b = 0)) (n := i) (bw_endT c_3 c_4), ← ea]; done) | (rw [bw_F_f (c := fun b => bw_m T b && decide (tc b = 0)) (n := i) (bw_endF1 c_4), ← ea]; done) | (rw [bw_F_f (c := fun b => bw_m T b && decide (tc b = 0)) (n := i) (bw_endF2 c_4), ← ea]; done) ) ls (lv_sub hl [1, 2, 0] rfl)
          · skip
            refine lv_lload_n hx hb dB_ends_30 rfl (lv_at hl 1 rfl) ?_
            refine lv_iload_n hx hb dB_ends_31 rfl (lv_at hl 2 rfl) ?_
            refine vp_callSl (W.runS (As := [.int (nI i)]) (rest := [.long acc]) ⟨hx, hb, hml, hown, hT⟩ (c_bit l i) (cwS 1 hT g_B_49 rfl rfl rfl (by decide +kernel) ⟨Nat.le_of_ble_eq_true rfl, Nat.le_of_ble_eq_true rfl⟩) preEq rfl rfl hl.1 rfl (lv_room (Nat.le_of_ble_eq_true rfl)) dB_ends_32 ⟨Nat.le_of_ble_eq_true rfl, Nat.le_of_ble_eq_true rfl⟩) (fun r_5 hr_5 => ?_)
            rw [hr_5]; clear hr_5
            refine lv_lor hx hb dB_ends_35 ?_
            refine lv_lstore_n (lv' := [(1, .long (acc ||| (bw_b i))), (0, .ref x), (3, .int (nI i))]) hx hb dB_ends_36 rfl hl (by decide) rfl (fun ls hl => ?_)
            refine lv_iinc (v := nI (i + 1)) (lv' := [(3, .int (nI (i + 1))), (1, .long (acc ||| (bw_b i))), (0, .ref x)]) hx hb dB_ends_37 hl (k := 2) rfl (nI_1 _) (by decide) rfl (fun ls hl => ?_)
            refine lv_goto (tgt := 4) hx hb dB_ends_40 (by decide) ?_
            exact ih_4 (i + 1) (acc ||| (bw_b i)) (by omega) (by omega) (by first | (rw [bw_F_t (c := fun b => bw_m T b && decide (tc b = 0)) (n := i) (bw_endT c_3 c_4), ← ea]; done) | (rw [bw_F_f (c := fun b => bw_m T b && decide (tc b = 0)) (n := i) (bw_endF1 c_4), ← ea]; done) | (rw [bw_F_f (c := fun b => bw_m T b && decide (tc b = 0)) (n := i) (bw_endF2 c_4), ← ea]; done) ) ls (lv_sub hl [2, 1, 0] rfl)
  exact loop_4 41 0 0 (by omega) (by omega) (rfl) ls (lv_sub hl [2, 1, 0] rfl)
set_option maxHeartbeats 4000000 in
set_option maxRecDepth 100000 in
theorem c_renewOnward (l : Launch) (dC : Nat → ClassId) (dI : Nat → Nat → Nat) (x t1 o o1 o2 q q1 q2 r r1 : Nat) (cI cL : ClassId) (T : Int64) (tc : Nat → Int32) (so go : Nat → Int64) (co : Int64) (sb gb : Nat → Int64) (cb : Int64) (bl : Nat → Int64) (f1 f2 : Int32) (sz : Nat) : Met l yB_renewOnward wsB_renewOnward ({ frames := 4, cells := 0, slots := 0, locals := 101 } : Room) (bw_Wr (dC, dI) [(cI, .int), (cL, .long)] [(x, .inr (2, [.long T, .ref t1, .ref o, .ref q, .ref r, .int f1, .int f2])), (t1, .inl (cI, 40, .inl tc)), (o, .inr (1, [.ref o1, .ref o2, .long co])), (q, .inr (1, [.ref q1, .ref q2, .long cb])), (r, .inr (0, [.ref r1])), (o1, .inl (cL, 40, .inr (.inl so))), (o2, .inl (cL, 40, .inr (.inl go))), (q1, .inl (cL, 40, .inr (.inl sb))), (q2, .inl (cL, 40, .inr (.inl gb))), (r1, .inl (cL, 40, .inr (.inl bl)))] sz [.ref x]) (va_Qv (S := Unit) (fun _ => True) (fun (_ : Unit) t => va_P (dC, dI) vwCl [(x, .inr (2, [.long T, .ref t1, .ref o, .ref q, .ref r, .int 0, .int f2])), (t1, .inl (cI, 40, .inl tc)), (o, .inr (1, [.ref o1, .ref o2, .long (bw_q f1 co (bw_nc so T))])), (q, .inr (1, [.ref q1, .ref q2, .long cb])), (r, .inr (0, [.ref r1])), (o1, .inl (cL, 40, .inr (.inl so))), (o2, .inl (cL, 40, .inr (.inl (bw_q f1 go (bw_ng so T go))))), (q1, .inl (cL, 40, .inr (.inl sb))), (q2, .inl (cL, 40, .inr (.inl gb))), (r1, .inl (cL, 40, .inr (.inl (bw_q f1 bl (bw_nl so sb T go bl)))))] t.heap ∧ va_D (va_A [(x, .inr (2, [.long T, .ref t1, .ref o, .ref q, .ref r, .int f1, .int f2])), (t1, .inl (cI, 40, .inl tc)), (o, .inr (1, [.ref o1, .ref o2, .long co])), (q, .inr (1, [.ref q1, .ref q2, .long cb])), (r, .inr (0, [.ref r1])), (o1, .inl (cL, 40, .inr (.inl so))), (o2, .inl (cL, 40, .inr (.inl go))), (q1, .inl (cL, 40, .inr (.inl sb))), (q2, .inl (cL, 40, .inr (.inl gb))), (r1, .inl (cL, 40, .inr (.inl bl)))] sz) [(x, .inr (2, [.long T, .ref t1, .ref o, .ref q, .ref r, .int 0, .int f2])), (t1, .inl (cI, 40, .inl tc)), (o, .inr (1, [.ref o1, .ref o2, .long (bw_q f1 co (bw_nc so T))])), (q, .inr (1, [.ref q1, .ref q2, .long cb])), (r, .inr (0, [.ref r1])), (o1, .inl (cL, 40, .inr (.inl so))), (o2, .inl (cL, 40, .inr (.inl (bw_q f1 go (bw_ng so T go))))), (q1, .inl (cL, 40, .inr (.inl sb))), (q2, .inl (cL, 40, .inr (.inl gb))), (r1, .inl (cL, 40, .inr (.inl (bw_q f1 bl (bw_nl so sb T go bl)))))]) (va_A [(x, .inr (2, [.long T, .ref t1, .ref o, .ref q, .ref r, .int f1, .int f2])), (t1, .inl (cI, 40, .inl tc)), (o, .inr (1, [.ref o1, .ref o2, .long co])), (q, .inr (1, [.ref q1, .ref q2, .long cb])), (r, .inr (0, [.ref r1])), (o1, .inl (cL, 40, .inr (.inl so))), (o2, .inl (cL, 40, .inr (.inl go))), (q1, .inl (cL, 40, .inr (.inl sb))), (q2, .inl (cL, 40, .inr (.inl gb))), (r1, .inl (cL, 40, .inr (.inl bl)))] sz)) 0 0 (va_A [(x, .inr (2, [.long T, .ref t1, .ref o, .ref q, .ref r, .int f1, .int f2])), (t1, .inl (cI, 40, .inl tc)), (o, .inr (1, [.ref o1, .ref o2, .long co])), (q, .inr (1, [.ref q1, .ref q2, .long cb])), (r, .inr (0, [.ref r1])), (o1, .inl (cL, 40, .inr (.inl so))), (o2, .inl (cL, 40, .inr (.inl go))), (q1, .inl (cL, 40, .inr (.inl sb))), (q2, .inl (cL, 40, .inr (.inl gb))), (r1, .inl (cL, 40, .inr (.inl bl)))] sz) := by
  refine Met.ofW (cc := cB_renewOnward) (maxL := 1) (ret := none) (by decide) rfl ?_
  intro p e s m args below meth c s₁ B hml hv
  obtain ⟨rfl, hsz, hP, hK, hN, hD0⟩ := hv
  have hx := B.exec
  have hb := B.bytes
  have hr := B.returns
  have hts := atoms_spec (ws := wsB_renewOnward) B.pre
  have hT : ∀ w ∈ bwB, w.before _ s = true := fun w h => hts w (List.mem_cons_of_mem _ h)
  have hown : s.vm.findClass RB = some m.cls := findClass_of_methodNamed B.named
  have hlocks := B.notSynchronized
  subst hsz
  have hD := hD0.self (sz := s.heap.size)
  generalize hAe : va_A [(x, .inr (2, [.long T, .ref t1, .ref o, .ref q, .ref r, .int f1, .int f2])), (t1, .inl (cI, 40, .inl tc)), (o, .inr (1, [.ref o1, .ref o2, .long co])), (q, .inr (1, [.ref q1, .ref q2, .long cb])), (r, .inr (0, [.ref r1])), (o1, .inl (cL, 40, .inr (.inl so))), (o2, .inl (cL, 40, .inr (.inl go))), (q1, .inl (cL, 40, .inr (.inl sb))), (q2, .inl (cL, 40, .inr (.inl gb))), (r1, .inl (cL, 40, .inr (.inl bl)))] s.heap.size = A at hD ⊢
  have hA : ∀ q : Nat, s.heap.size ≤ q → A q := fun q h => by rw [← hAe]; exact Or.inr h
  have hS : va_S A s.heap s.heap [] := va_S.rf
  have hP : va_P (dC, dI) vwCl [(x, .inr (2, [.long T, .ref t1, .ref o, .ref q, .ref r, .int f1, .int f2])), (t1, .inl (cI, 40, .inl tc)), (o, .inr (1, [.ref o1, .ref o2, .long co])), (q, .inr (1, [.ref q1, .ref q2, .long cb])), (r, .inr (0, [.ref r1])), (o1, .inl (cL, 40, .inr (.inl so))), (o2, .inl (cL, 40, .inr (.inl go))), (q1, .inl (cL, 40, .inr (.inl sb))), (q2, .inl (cL, 40, .inr (.inl gb))), (r1, .inl (cL, 40, .inr (.inl bl)))] s.heap := hP
  have hl := lv_entry ([.ref x]) (n := 1) (Nat.le_of_ble_eq_true rfl)
  rw [lg_entry_eq]
  generalize (lg_sl ([.ref x]) ++ List.replicate (1 - (lg_sl ([.ref x])).length) Slot.unset).toArray = ls at hl ⊢
  have hl : lv_has ls 1 [(0, .ref x)] := hl
  refine lv_aload_n hx hb dB_renewOnward_0 rfl (lv_at hl 0 rfl) ?_
  refine va_get (D := (dC, dI)) (ci := 2) (v := .int f1) (C := RB) (T := TB) (N := 7) hx hb hT inB hown hK hP 0 rfl rfl 5 (by decide) (hT _ hw_69) (fun _ h9 => h9) rfl dB_renewOnward_1 ?_
  refine lv_if_eq (tgt := 42) hx hb dB_renewOnward_4 (by decide) (fun c_1 => ?_) (fun c_1 => ?_)
  · skip
    subst c_1
    have hP9 := hP.sub (ws' := [(x, .inr (2, [.long T, .ref t1, .ref o, .ref q, .ref r, .int 0, .int f2])), (t1, .inl (cI, 40, .inl tc)), (o, .inr (1, [.ref o1, .ref o2, .long co])), (q, .inr (1, [.ref q1, .ref q2, .long cb])), (r, .inr (0, [.ref r1])), (o1, .inl (cL, 40, .inr (.inl so))), (o2, .inl (cL, 40, .inr (.inl go))), (q1, .inl (cL, 40, .inr (.inl sb))), (q2, .inl (cL, 40, .inr (.inl gb))), (r1, .inl (cL, 40, .inr (.inl bl)))]) [0, 1, 2, 3, 4, 5, 6, 7, 8, 9] rfl
    have hD9 := hD.sub (ws' := [(x, .inr (2, [.long T, .ref t1, .ref o, .ref q, .ref r, .int 0, .int f2])), (t1, .inl (cI, 40, .inl tc)), (o, .inr (1, [.ref o1, .ref o2, .long co])), (q, .inr (1, [.ref q1, .ref q2, .long cb])), (r, .inr (0, [.ref r1])), (o1, .inl (cL, 40, .inr (.inl so))), (o2, .inl (cL, 40, .inr (.inl go))), (q1, .inl (cL, 40, .inr (.inl sb))), (q2, .inl (cL, 40, .inr (.inl gb))), (r1, .inl (cL, 40, .inr (.inl bl)))]) [0, 1, 2, 3, 4, 5, 6, 7, 8, 9] (by decide) rfl
    exact W.vret hx hb hr (fun t9 ht9 hW9 => ⟨⟨(), rfl, trivial, by rw [ht9]; simp only [bw_q_t (rfl : (0 : Int32) = 0)]; exact hP9, by simp only [bw_q_t (rfl : (0 : Int32) = 0)]; exact hD9⟩, hS.F ht9⟩) hS.2.2 dB_renewOnward_42
  · skip
    refine lv_aload_n hx hb dB_renewOnward_7 rfl (lv_at hl 0 rfl) ?_
    refine va_get (D := (dC, dI)) (ci := 2) (v := .ref o) (C := RB) (T := TB) (N := 7) hx hb hT inB hown hK hP 0 rfl rfl 2 (by decide) (hT _ hw_66) (fun _ h9 => h9) rfl dB_renewOnward_8 ?_
    refine lv_iconst (v := nI 0) hx hb dB_renewOnward_11 (by decide) ?_
    refine vp_callSl (W.runS (As := [.int (nI 0)]) (rest := [.ref o]) ⟨hx, hb, hml, hown, hT⟩ (c_bit l 0) (cwS 1 hT g_B_49 rfl rfl rfl (by decide +kernel) ⟨Nat.le_of_ble_eq_true rfl, Nat.le_of_ble_eq_true rfl⟩) preEq rfl rfl hl.1 rfl (lv_room (Nat.le_of_ble_eq_true rfl)) dB_renewOnward_12 ⟨Nat.le_of_ble_eq_true rfl, Nat.le_of_ble_eq_true rfl⟩) (fun r_2 hr_2 => ?_)
    rw [hr_2]; clear hr_2
    refine lv_aload_n hx hb dB_renewOnward_15 rfl (lv_at hl 0 rfl) ?_
    refine va_get (D := (dC, dI)) (ci := 2) (v := .long T) (C := RB) (T := TB) (N := 7) hx hb hT inB hown hK hP 0 rfl rfl 0 (by decide) (hT _ hw_64) (fun _ h9 => h9) rfl dB_renewOnward_16 ?_
    have hPc := hP.sub (ws' := [(o, .inr (1, [.ref o1, .ref o2, .long co])), (o1, .inl (cL, 40, .inr (.inl so))), (o2, .inl (cL, 40, .inr (.inl go)))]) [2, 5, 6] rfl
    have hDc := hD.sub (ws' := [(o, .inr (1, [.ref o1, .ref o2, .long co])), (o1, .inl (cL, 40, .inr (.inl so))), (o2, .inl (cL, 40, .inr (.inl go)))]) [2, 5, 6] (by decide) rfl
    have hKc := hK.sub (tys' := [(cL, .long)]) [1] rfl
    have hFc := va_free (wc := [(o, .inr (1, [.ref o1, .ref o2, .long co])), (o1, .inl (cL, 40, .inr (.inl so))), (o2, .inl (cL, 40, .inr (.inl go)))]) hD hS hA [2, 5, 6] rfl
    refine va_callv (va_runV (As := [.long (bw_b 0), .long T]) (rest := []) ⟨hx, hb, hml, hown, hT⟩ (c_renewS l dC dI o o1 o2 cL so go co (bw_b 0) T s.heap.size) (cwV 2 hT g_B_139 rfl rfl rfl (by decide +kernel) ⟨Nat.le_of_ble_eq_true rfl, Nat.le_of_ble_eq_true rfl⟩) (bw_qV hPc hKc hN hDc (ci := 1) (q0 := 0) rfl rfl) rfl rfl hl.1 rfl (lv_room (Nat.le_of_ble_eq_true rfl)) dB_renewOnward_19 ⟨Nat.le_of_ble_eq_true rfl, Nat.le_of_ble_eq_true rfl⟩) hS (fun q _ h => hFc q h) hFc (fun u_3 t_3 H1 locs ht hvm hw_3 hB hz1 hk1 hS => ?_)
    obtain ⟨hP1, hD1⟩ := hB
    rw [ht] at hP1
    obtain ⟨hP, hD⟩ := va_join (wr := [(x, .inr (2, [.long T, .ref t1, .ref o, .ref q, .ref r, .int f1, .int f2])), (t1, .inl (cI, 40, .inl tc)), (q, .inr (1, [.ref q1, .ref q2, .long cb])), (r, .inr (0, [.ref r1])), (q1, .inl (cL, 40, .inr (.inl sb))), (q2, .inl (cL, 40, .inr (.inl gb))), (r1, .inl (cL, 40, .inr (.inl bl)))]) (w1 := [(o, .inr (1, [.ref o1, .ref o2, .long (bw_flood so (bw_b 0) T)])), (o1, .inl (cL, 40, .inr (.inl so))), (o2, .inl (cL, 40, .inr (.inl (bw_up (bw_gt so (bw_b 0) (bw_flood so (bw_b 0) T)) go 40))))]) hP hD [2, 5, 6] [0, 1, 3, 4, 7, 8, 9] rfl rfl (by decide) (by decide) hk1 hFc hP1 hD1
    generalize H1 = H at hP hS ⊢
    have hP : va_P (dC, dI) vwCl [(x, .inr (2, [.long T, .ref t1, .ref o, .ref q, .ref r, .int f1, .int f2])), (t1, .inl (cI, 40, .inl tc)), (q, .inr (1, [.ref q1, .ref q2, .long cb])), (r, .inr (0, [.ref r1])), (q1, .inl (cL, 40, .inr (.inl sb))), (q2, .inl (cL, 40, .inr (.inl gb))), (r1, .inl (cL, 40, .inr (.inl bl))), (o, .inr (1, [.ref o1, .ref o2, .long (bw_flood so (bw_b 0) T)])), (o1, .inl (cL, 40, .inr (.inl so))), (o2, .inl (cL, 40, .inr (.inl (bw_up (bw_gt so (bw_b 0) (bw_flood so (bw_b 0) T)) go 40))))] H := hP
    have hD : va_D A [(x, .inr (2, [.long T, .ref t1, .ref o, .ref q, .ref r, .int f1, .int f2])), (t1, .inl (cI, 40, .inl tc)), (q, .inr (1, [.ref q1, .ref q2, .long cb])), (r, .inr (0, [.ref r1])), (q1, .inl (cL, 40, .inr (.inl sb))), (q2, .inl (cL, 40, .inr (.inl gb))), (r1, .inl (cL, 40, .inr (.inl bl))), (o, .inr (1, [.ref o1, .ref o2, .long (bw_flood so (bw_b 0) T)])), (o1, .inl (cL, 40, .inr (.inl so))), (o2, .inl (cL, 40, .inr (.inl (bw_up (bw_gt so (bw_b 0) (bw_flood so (bw_b 0) T)) go 40))))] := hD
    refine lv_aload_n hx hb dB_renewOnward_22 rfl (lv_at hl 0 rfl) ?_
    refine va_get (D := (dC, dI)) (ci := 2) (v := .ref r) (C := RB) (T := TB) (N := 7) hx hb hT inB hown hK hP 0 rfl rfl 4 (by decide) (hT _ hw_68) (fun _ h9 => h9) rfl dB_renewOnward_23 ?_
    refine lv_aload_n hx hb dB_renewOnward_26 rfl (lv_at hl 0 rfl) ?_
    refine va_get (D := (dC, dI)) (ci := 2) (v := .ref o) (C := RB) (T := TB) (N := 7) hx hb hT inB hown hK hP 0 rfl rfl 2 (by decide) (hT _ hw_66) (fun _ h9 => h9) rfl dB_renewOnward_27 ?_
    refine lv_aload_n hx hb dB_renewOnward_30 rfl (lv_at hl 0 rfl) ?_
    refine va_get (D := (dC, dI)) (ci := 2) (v := .ref q) (C := RB) (T := TB) (N := 7) hx hb hT inB hown hK hP 0 rfl rfl 3 (by decide) (hT _ hw_67) (fun _ h9 => h9) rfl dB_renewOnward_31 ?_
    have hPc := hP.sub (ws' := [(r, .inr (0, [.ref r1])), (r1, .inl (cL, 40, .inr (.inl bl))), (o, .inr (1, [.ref o1, .ref o2, .long (bw_flood so (bw_b 0) T)])), (o1, .inl (cL, 40, .inr (.inl so))), (o2, .inl (cL, 40, .inr (.inl (bw_up (bw_gt so (bw_b 0) (bw_flood so (bw_b 0) T)) go 40)))), (q, .inr (1, [.ref q1, .ref q2, .long cb])), (q1, .inl (cL, 40, .inr (.inl sb))), (q2, .inl (cL, 40, .inr (.inl gb)))]) [3, 6, 7, 8, 9, 2, 4, 5] rfl
    have hDc := hD.sub (ws' := [(r, .inr (0, [.ref r1])), (r1, .inl (cL, 40, .inr (.inl bl))), (o, .inr (1, [.ref o1, .ref o2, .long (bw_flood so (bw_b 0) T)])), (o1, .inl (cL, 40, .inr (.inl so))), (o2, .inl (cL, 40, .inr (.inl (bw_up (bw_gt so (bw_b 0) (bw_flood so (bw_b 0) T)) go 40)))), (q, .inr (1, [.ref q1, .ref q2, .long cb])), (q1, .inl (cL, 40, .inr (.inl sb))), (q2, .inl (cL, 40, .inr (.inl gb)))]) [3, 6, 7, 8, 9, 2, 4, 5] (by decide) rfl
    have hKc := hK.sub (tys' := [(cL, .long)]) [1] rfl
    have hFc := va_free (wc := [(r, .inr (0, [.ref r1])), (r1, .inl (cL, 40, .inr (.inl bl))), (o, .inr (1, [.ref o1, .ref o2, .long (bw_flood so (bw_b 0) T)])), (o1, .inl (cL, 40, .inr (.inl so))), (o2, .inl (cL, 40, .inr (.inl (bw_up (bw_gt so (bw_b 0) (bw_flood so (bw_b 0) T)) go 40)))), (q, .inr (1, [.ref q1, .ref q2, .long cb])), (q1, .inl (cL, 40, .inr (.inl sb))), (q2, .inl (cL, 40, .inr (.inl gb)))]) hD hS hA [3, 6, 7, 8, 9, 2, 4, 5] rfl
    refine va_callv (va_runV (As := [.ref o, .ref q]) (rest := []) ⟨hx, hb, hml, hown, hT⟩ (c_renewR l dC dI r r1 cL bl o o1 o2 so (bw_up (bw_gt so (bw_b 0) (bw_flood so (bw_b 0) T)) go 40) (bw_flood so (bw_b 0) T) q q1 q2 sb gb cb H.size) (cwV 2 hT g_B_143 rfl rfl rfl (by decide +kernel) ⟨Nat.le_of_ble_eq_true rfl, Nat.le_of_ble_eq_true rfl⟩) (bw_qV hPc hKc hN hDc (ci := 0) (q0 := 0) rfl rfl) rfl rfl hl.1 rfl (lv_room (Nat.le_of_ble_eq_true rfl)) dB_renewOnward_34 ⟨Nat.le_of_ble_eq_true rfl, Nat.le_of_ble_eq_true rfl⟩) hS (fun q _ h => hFc q h) hFc (fun u_4 t_4 H1 locs ht hvm hw_4 hB hz1 hk1 hS => ?_)
    obtain ⟨hP1, hD1⟩ := hB
    rw [ht] at hP1
    obtain ⟨hP, hD⟩ := va_join (wr := [(x, .inr (2, [.long T, .ref t1, .ref o, .ref q, .ref r, .int f1, .int f2])), (t1, .inl (cI, 40, .inl tc))]) (w1 := [(r, .inr (0, [.ref r1])), (r1, .inl (cL, 40, .inr (.inl (bw_up (bw_bl sb (bw_up (bw_gt so (bw_b 0) (bw_flood so (bw_b 0) T)) go 40) (bw_flood so (bw_b 0) T)) bl 40)))), (o, .inr (1, [.ref o1, .ref o2, .long (bw_flood so (bw_b 0) T)])), (o1, .inl (cL, 40, .inr (.inl so))), (o2, .inl (cL, 40, .inr (.inl (bw_up (bw_gt so (bw_b 0) (bw_flood so (bw_b 0) T)) go 40)))), (q, .inr (1, [.ref q1, .ref q2, .long cb])), (q1, .inl (cL, 40, .inr (.inl sb))), (q2, .inl (cL, 40, .inr (.inl gb)))]) hP hD [3, 6, 7, 8, 9, 2, 4, 5] [0, 1] rfl rfl (by decide) (by decide) hk1 hFc hP1 hD1
    generalize H1 = H at hP hS ⊢
    have hP : va_P (dC, dI) vwCl [(x, .inr (2, [.long T, .ref t1, .ref o, .ref q, .ref r, .int f1, .int f2])), (t1, .inl (cI, 40, .inl tc)), (r, .inr (0, [.ref r1])), (r1, .inl (cL, 40, .inr (.inl (bw_up (bw_bl sb (bw_up (bw_gt so (bw_b 0) (bw_flood so (bw_b 0) T)) go 40) (bw_flood so (bw_b 0) T)) bl 40)))), (o, .inr (1, [.ref o1, .ref o2, .long (bw_flood so (bw_b 0) T)])), (o1, .inl (cL, 40, .inr (.inl so))), (o2, .inl (cL, 40, .inr (.inl (bw_up (bw_gt so (bw_b 0) (bw_flood so (bw_b 0) T)) go 40)))), (q, .inr (1, [.ref q1, .ref q2, .long cb])), (q1, .inl (cL, 40, .inr (.inl sb))), (q2, .inl (cL, 40, .inr (.inl gb)))] H := hP
    have hD : va_D A [(x, .inr (2, [.long T, .ref t1, .ref o, .ref q, .ref r, .int f1, .int f2])), (t1, .inl (cI, 40, .inl tc)), (r, .inr (0, [.ref r1])), (r1, .inl (cL, 40, .inr (.inl (bw_up (bw_bl sb (bw_up (bw_gt so (bw_b 0) (bw_flood so (bw_b 0) T)) go 40) (bw_flood so (bw_b 0) T)) bl 40)))), (o, .inr (1, [.ref o1, .ref o2, .long (bw_flood so (bw_b 0) T)])), (o1, .inl (cL, 40, .inr (.inl so))), (o2, .inl (cL, 40, .inr (.inl (bw_up (bw_gt so (bw_b 0) (bw_flood so (bw_b 0) T)) go 40)))), (q, .inr (1, [.ref q1, .ref q2, .long cb])), (q1, .inl (cL, 40, .inr (.inl sb))), (q2, .inl (cL, 40, .inr (.inl gb)))] := hD
    refine lv_aload_n hx hb dB_renewOnward_37 rfl (lv_at hl 0 rfl) ?_
    refine lv_iconst (v := 0) hx hb dB_renewOnward_38 (by decide) ?_
    refine va_put (D := (dC, dI)) (ci := 2) (v := .int 0) (ty := .boolean) (C := RB) (T := TB) (N := 7) hx hb hT inB tyB tokB nmB hown hK hP hD hS 0 rfl rfl 5 (by decide) (hT _ hw_69) (fun _ h9 => h9) rfl (by decide +kernel) rfl rfl (Nat.le_of_ble_eq_true rfl) dB_renewOnward_39 (fun H locs hP hD hS => ?_)
    have hP : va_P (dC, dI) vwCl [(x, .inr (2, [.long T, .ref t1, .ref o, .ref q, .ref r, .int 0, .int f2])), (t1, .inl (cI, 40, .inl tc)), (r, .inr (0, [.ref r1])), (r1, .inl (cL, 40, .inr (.inl (bw_up (bw_bl sb (bw_up (bw_gt so (bw_b 0) (bw_flood so (bw_b 0) T)) go 40) (bw_flood so (bw_b 0) T)) bl 40)))), (o, .inr (1, [.ref o1, .ref o2, .long (bw_flood so (bw_b 0) T)])), (o1, .inl (cL, 40, .inr (.inl so))), (o2, .inl (cL, 40, .inr (.inl (bw_up (bw_gt so (bw_b 0) (bw_flood so (bw_b 0) T)) go 40)))), (q, .inr (1, [.ref q1, .ref q2, .long cb])), (q1, .inl (cL, 40, .inr (.inl sb))), (q2, .inl (cL, 40, .inr (.inl gb)))] H := hP
    have hD : va_D A [(x, .inr (2, [.long T, .ref t1, .ref o, .ref q, .ref r, .int 0, .int f2])), (t1, .inl (cI, 40, .inl tc)), (r, .inr (0, [.ref r1])), (r1, .inl (cL, 40, .inr (.inl (bw_up (bw_bl sb (bw_up (bw_gt so (bw_b 0) (bw_flood so (bw_b 0) T)) go 40) (bw_flood so (bw_b 0) T)) bl 40)))), (o, .inr (1, [.ref o1, .ref o2, .long (bw_flood so (bw_b 0) T)])), (o1, .inl (cL, 40, .inr (.inl so))), (o2, .inl (cL, 40, .inr (.inl (bw_up (bw_gt so (bw_b 0) (bw_flood so (bw_b 0) T)) go 40)))), (q, .inr (1, [.ref q1, .ref q2, .long cb])), (q1, .inl (cL, 40, .inr (.inl sb))), (q2, .inl (cL, 40, .inr (.inl gb)))] := hD
    have hP9 := hP.sub (ws' := [(x, .inr (2, [.long T, .ref t1, .ref o, .ref q, .ref r, .int 0, .int f2])), (t1, .inl (cI, 40, .inl tc)), (o, .inr (1, [.ref o1, .ref o2, .long (bw_flood so (bw_b 0) T)])), (q, .inr (1, [.ref q1, .ref q2, .long cb])), (r, .inr (0, [.ref r1])), (o1, .inl (cL, 40, .inr (.inl so))), (o2, .inl (cL, 40, .inr (.inl (bw_up (bw_gt so (bw_b 0) (bw_flood so (bw_b 0) T)) go 40)))), (q1, .inl (cL, 40, .inr (.inl sb))), (q2, .inl (cL, 40, .inr (.inl gb))), (r1, .inl (cL, 40, .inr (.inl (bw_up (bw_bl sb (bw_up (bw_gt so (bw_b 0) (bw_flood so (bw_b 0) T)) go 40) (bw_flood so (bw_b 0) T)) bl 40))))]) [0, 1, 4, 7, 2, 5, 6, 8, 9, 3] rfl
    have hD9 := hD.sub (ws' := [(x, .inr (2, [.long T, .ref t1, .ref o, .ref q, .ref r, .int 0, .int f2])), (t1, .inl (cI, 40, .inl tc)), (o, .inr (1, [.ref o1, .ref o2, .long (bw_flood so (bw_b 0) T)])), (q, .inr (1, [.ref q1, .ref q2, .long cb])), (r, .inr (0, [.ref r1])), (o1, .inl (cL, 40, .inr (.inl so))), (o2, .inl (cL, 40, .inr (.inl (bw_up (bw_gt so (bw_b 0) (bw_flood so (bw_b 0) T)) go 40)))), (q1, .inl (cL, 40, .inr (.inl sb))), (q2, .inl (cL, 40, .inr (.inl gb))), (r1, .inl (cL, 40, .inr (.inl (bw_up (bw_bl sb (bw_up (bw_gt so (bw_b 0) (bw_flood so (bw_b 0) T)) go 40) (bw_flood so (bw_b 0) T)) bl 40))))]) [0, 1, 4, 7, 2, 5, 6, 8, 9, 3] (by decide) rfl
    exact W.vret hx hb hr (fun t9 ht9 hW9 => ⟨⟨(), rfl, trivial, by rw [ht9]; simp only [bw_q_f c_1]; exact hP9, by simp only [bw_q_f c_1]; exact hD9⟩, hS.F ht9⟩) hS.2.2 dB_renewOnward_42
set_option maxHeartbeats 4000000 in
set_option maxRecDepth 100000 in
theorem c_freshOnward (l : Launch) (dC : Nat → ClassId) (dI : Nat → Nat → Nat) (x t1 o o1 o2 q q1 q2 r r1 : Nat) (cI cL : ClassId) (T : Int64) (tc : Nat → Int32) (so go : Nat → Int64) (co : Int64) (sb gb : Nat → Int64) (cb : Int64) (bl : Nat → Int64) (f1 f2 : Int32) (sz : Nat) : Met l yB_freshOnward wsB_freshOnward ({ frames := 5, cells := 0, slots := 0, locals := 121 } : Room) (bw_Wr (dC, dI) [(cI, .int), (cL, .long)] [(x, .inr (2, [.long T, .ref t1, .ref o, .ref q, .ref r, .int f1, .int f2])), (t1, .inl (cI, 40, .inl tc)), (o, .inr (1, [.ref o1, .ref o2, .long co])), (q, .inr (1, [.ref q1, .ref q2, .long cb])), (r, .inr (0, [.ref r1])), (o1, .inl (cL, 40, .inr (.inl so))), (o2, .inl (cL, 40, .inr (.inl go))), (q1, .inl (cL, 40, .inr (.inl sb))), (q2, .inl (cL, 40, .inr (.inl gb))), (r1, .inl (cL, 40, .inr (.inl bl)))] sz [.ref x]) (va_Qr (S := Unit) (fun _ => True) (fun (_ : Unit) (ra : Nat) t => ra = o ∧ va_P (dC, dI) vwCl [(x, .inr (2, [.long T, .ref t1, .ref o, .ref q, .ref r, .int 0, .int f2])), (t1, .inl (cI, 40, .inl tc)), (o, .inr (1, [.ref o1, .ref o2, .long (bw_q f1 co (bw_nc so T))])), (q, .inr (1, [.ref q1, .ref q2, .long cb])), (r, .inr (0, [.ref r1])), (o1, .inl (cL, 40, .inr (.inl so))), (o2, .inl (cL, 40, .inr (.inl (bw_q f1 go (bw_ng so T go))))), (q1, .inl (cL, 40, .inr (.inl sb))), (q2, .inl (cL, 40, .inr (.inl gb))), (r1, .inl (cL, 40, .inr (.inl (bw_q f1 bl (bw_nl so sb T go bl)))))] t.heap ∧ va_D (va_A [(x, .inr (2, [.long T, .ref t1, .ref o, .ref q, .ref r, .int f1, .int f2])), (t1, .inl (cI, 40, .inl tc)), (o, .inr (1, [.ref o1, .ref o2, .long co])), (q, .inr (1, [.ref q1, .ref q2, .long cb])), (r, .inr (0, [.ref r1])), (o1, .inl (cL, 40, .inr (.inl so))), (o2, .inl (cL, 40, .inr (.inl go))), (q1, .inl (cL, 40, .inr (.inl sb))), (q2, .inl (cL, 40, .inr (.inl gb))), (r1, .inl (cL, 40, .inr (.inl bl)))] sz) [(x, .inr (2, [.long T, .ref t1, .ref o, .ref q, .ref r, .int 0, .int f2])), (t1, .inl (cI, 40, .inl tc)), (o, .inr (1, [.ref o1, .ref o2, .long (bw_q f1 co (bw_nc so T))])), (q, .inr (1, [.ref q1, .ref q2, .long cb])), (r, .inr (0, [.ref r1])), (o1, .inl (cL, 40, .inr (.inl so))), (o2, .inl (cL, 40, .inr (.inl (bw_q f1 go (bw_ng so T go))))), (q1, .inl (cL, 40, .inr (.inl sb))), (q2, .inl (cL, 40, .inr (.inl gb))), (r1, .inl (cL, 40, .inr (.inl (bw_q f1 bl (bw_nl so sb T go bl)))))]) (va_A [(x, .inr (2, [.long T, .ref t1, .ref o, .ref q, .ref r, .int f1, .int f2])), (t1, .inl (cI, 40, .inl tc)), (o, .inr (1, [.ref o1, .ref o2, .long co])), (q, .inr (1, [.ref q1, .ref q2, .long cb])), (r, .inr (0, [.ref r1])), (o1, .inl (cL, 40, .inr (.inl so))), (o2, .inl (cL, 40, .inr (.inl go))), (q1, .inl (cL, 40, .inr (.inl sb))), (q2, .inl (cL, 40, .inr (.inl gb))), (r1, .inl (cL, 40, .inr (.inl bl)))] sz)) 0 0 (va_A [(x, .inr (2, [.long T, .ref t1, .ref o, .ref q, .ref r, .int f1, .int f2])), (t1, .inl (cI, 40, .inl tc)), (o, .inr (1, [.ref o1, .ref o2, .long co])), (q, .inr (1, [.ref q1, .ref q2, .long cb])), (r, .inr (0, [.ref r1])), (o1, .inl (cL, 40, .inr (.inl so))), (o2, .inl (cL, 40, .inr (.inl go))), (q1, .inl (cL, 40, .inr (.inl sb))), (q2, .inl (cL, 40, .inr (.inl gb))), (r1, .inl (cL, 40, .inr (.inl bl)))] sz) := by
  refine Met.ofW (cc := cB_freshOnward) (maxL := 1) (ret := (some (.object "BlockWays$Spread"))) (by decide) rfl ?_
  intro p e s m args below meth c s₁ B hml hv
  obtain ⟨rfl, hsz, hP, hK, hN, hD0⟩ := hv
  have hx := B.exec
  have hb := B.bytes
  have hr := B.returns
  have hts := atoms_spec (ws := wsB_freshOnward) B.pre
  have hT : ∀ w ∈ bwB, w.before _ s = true := fun w h => hts w (List.mem_cons_of_mem _ h)
  have hown : s.vm.findClass RB = some m.cls := findClass_of_methodNamed B.named
  have hlocks := B.notSynchronized
  subst hsz
  have hD := hD0.self (sz := s.heap.size)
  generalize hAe : va_A [(x, .inr (2, [.long T, .ref t1, .ref o, .ref q, .ref r, .int f1, .int f2])), (t1, .inl (cI, 40, .inl tc)), (o, .inr (1, [.ref o1, .ref o2, .long co])), (q, .inr (1, [.ref q1, .ref q2, .long cb])), (r, .inr (0, [.ref r1])), (o1, .inl (cL, 40, .inr (.inl so))), (o2, .inl (cL, 40, .inr (.inl go))), (q1, .inl (cL, 40, .inr (.inl sb))), (q2, .inl (cL, 40, .inr (.inl gb))), (r1, .inl (cL, 40, .inr (.inl bl)))] s.heap.size = A at hD ⊢
  have hA : ∀ q : Nat, s.heap.size ≤ q → A q := fun q h => by rw [← hAe]; exact Or.inr h
  have hS : va_S A s.heap s.heap [] := va_S.rf
  have hP : va_P (dC, dI) vwCl [(x, .inr (2, [.long T, .ref t1, .ref o, .ref q, .ref r, .int f1, .int f2])), (t1, .inl (cI, 40, .inl tc)), (o, .inr (1, [.ref o1, .ref o2, .long co])), (q, .inr (1, [.ref q1, .ref q2, .long cb])), (r, .inr (0, [.ref r1])), (o1, .inl (cL, 40, .inr (.inl so))), (o2, .inl (cL, 40, .inr (.inl go))), (q1, .inl (cL, 40, .inr (.inl sb))), (q2, .inl (cL, 40, .inr (.inl gb))), (r1, .inl (cL, 40, .inr (.inl bl)))] s.heap := hP
  have hl := lv_entry ([.ref x]) (n := 1) (Nat.le_of_ble_eq_true rfl)
  rw [lg_entry_eq]
  generalize (lg_sl ([.ref x]) ++ List.replicate (1 - (lg_sl ([.ref x])).length) Slot.unset).toArray = ls at hl ⊢
  have hl : lv_has ls 1 [(0, .ref x)] := hl
  refine lv_aload_n hx hb dB_freshOnward_0 rfl (lv_at hl 0 rfl) ?_
  have hPc := hP.sub (ws' := [(x, .inr (2, [.long T, .ref t1, .ref o, .ref q, .ref r, .int f1, .int f2])), (t1, .inl (cI, 40, .inl tc)), (o, .inr (1, [.ref o1, .ref o2, .long co])), (q, .inr (1, [.ref q1, .ref q2, .long cb])), (r, .inr (0, [.ref r1])), (o1, .inl (cL, 40, .inr (.inl so))), (o2, .inl (cL, 40, .inr (.inl go))), (q1, .inl (cL, 40, .inr (.inl sb))), (q2, .inl (cL, 40, .inr (.inl gb))), (r1, .inl (cL, 40, .inr (.inl bl)))]) [0, 1, 2, 3, 4, 5, 6, 7, 8, 9] rfl
  have hDc := hD.sub (ws' := [(x, .inr (2, [.long T, .ref t1, .ref o, .ref q, .ref r, .int f1, .int f2])), (t1, .inl (cI, 40, .inl tc)), (o, .inr (1, [.ref o1, .ref o2, .long co])), (q, .inr (1, [.ref q1, .ref q2, .long cb])), (r, .inr (0, [.ref r1])), (o1, .inl (cL, 40, .inr (.inl so))), (o2, .inl (cL, 40, .inr (.inl go))), (q1, .inl (cL, 40, .inr (.inl sb))), (q2, .inl (cL, 40, .inr (.inl gb))), (r1, .inl (cL, 40, .inr (.inl bl)))]) [0, 1, 2, 3, 4, 5, 6, 7, 8, 9] (by decide) rfl
  have hKc := hK.sub (tys' := [(cI, .int), (cL, .long)]) [0, 1] rfl
  have hFc := va_free (wc := [(x, .inr (2, [.long T, .ref t1, .ref o, .ref q, .ref r, .int f1, .int f2])), (t1, .inl (cI, 40, .inl tc)), (o, .inr (1, [.ref o1, .ref o2, .long co])), (q, .inr (1, [.ref q1, .ref q2, .long cb])), (r, .inr (0, [.ref r1])), (o1, .inl (cL, 40, .inr (.inl so))), (o2, .inl (cL, 40, .inr (.inl go))), (q1, .inl (cL, 40, .inr (.inl sb))), (q2, .inl (cL, 40, .inr (.inl gb))), (r1, .inl (cL, 40, .inr (.inl bl)))]) hD hS hA [0, 1, 2, 3, 4, 5, 6, 7, 8, 9] rfl
  refine va_callv (va_runV (As := []) (rest := []) ⟨hx, hb, hml, hown, hT⟩ (c_renewOnward l dC dI x t1 o o1 o2 q q1 q2 r r1 cI cL T tc so go co sb gb cb bl f1 f2 s.heap.size) (cwV 0 hT g_B_136 rfl rfl rfl (by decide +kernel) ⟨Nat.le_of_ble_eq_true rfl, Nat.le_of_ble_eq_true rfl⟩) (bw_qV hPc hKc hN hDc (ci := 2) (q0 := 0) rfl rfl) rfl rfl hl.1 rfl (lv_room (Nat.le_of_ble_eq_true rfl)) dB_freshOnward_1 ⟨Nat.le_of_ble_eq_true rfl, Nat.le_of_ble_eq_true rfl⟩) hS (fun q _ h => hFc q h) hFc (fun u_1 t_1 H1 locs ht hvm hw_1 hB hz1 hk1 hS => ?_)
  obtain ⟨hP1, hD1⟩ := hB
  rw [ht] at hP1
  obtain ⟨hP, hD⟩ := va_join (wr := []) (w1 := [(x, .inr (2, [.long T, .ref t1, .ref o, .ref q, .ref r, .int 0, .int f2])), (t1, .inl (cI, 40, .inl tc)), (o, .inr (1, [.ref o1, .ref o2, .long (bw_q f1 co (bw_nc so T))])), (q, .inr (1, [.ref q1, .ref q2, .long cb])), (r, .inr (0, [.ref r1])), (o1, .inl (cL, 40, .inr (.inl so))), (o2, .inl (cL, 40, .inr (.inl (bw_q f1 go (bw_ng so T go))))), (q1, .inl (cL, 40, .inr (.inl sb))), (q2, .inl (cL, 40, .inr (.inl gb))), (r1, .inl (cL, 40, .inr (.inl (bw_q f1 bl (bw_nl so sb T go bl)))))]) hP hD [0, 1, 2, 3, 4, 5, 6, 7, 8, 9] [] rfl rfl (by decide) (by decide) hk1 hFc hP1 hD1
  generalize H1 = H at hP hS ⊢
  have hP : va_P (dC, dI) vwCl [(x, .inr (2, [.long T, .ref t1, .ref o, .ref q, .ref r, .int 0, .int f2])), (t1, .inl (cI, 40, .inl tc)), (o, .inr (1, [.ref o1, .ref o2, .long (bw_q f1 co (bw_nc so T))])), (q, .inr (1, [.ref q1, .ref q2, .long cb])), (r, .inr (0, [.ref r1])), (o1, .inl (cL, 40, .inr (.inl so))), (o2, .inl (cL, 40, .inr (.inl (bw_q f1 go (bw_ng so T go))))), (q1, .inl (cL, 40, .inr (.inl sb))), (q2, .inl (cL, 40, .inr (.inl gb))), (r1, .inl (cL, 40, .inr (.inl (bw_q f1 bl (bw_nl so sb T go bl)))))] H := hP
  have hD : va_D A [(x, .inr (2, [.long T, .ref t1, .ref o, .ref q, .ref r, .int 0, .int f2])), (t1, .inl (cI, 40, .inl tc)), (o, .inr (1, [.ref o1, .ref o2, .long (bw_q f1 co (bw_nc so T))])), (q, .inr (1, [.ref q1, .ref q2, .long cb])), (r, .inr (0, [.ref r1])), (o1, .inl (cL, 40, .inr (.inl so))), (o2, .inl (cL, 40, .inr (.inl (bw_q f1 go (bw_ng so T go))))), (q1, .inl (cL, 40, .inr (.inl sb))), (q2, .inl (cL, 40, .inr (.inl gb))), (r1, .inl (cL, 40, .inr (.inl (bw_q f1 bl (bw_nl so sb T go bl)))))] := hD
  refine lv_aload_n hx hb dB_freshOnward_4 rfl (lv_at hl 0 rfl) ?_
  refine va_get (D := (dC, dI)) (ci := 2) (v := .ref o) (C := RB) (T := TB) (N := 7) hx hb hT inB hown hK hP 0 rfl rfl 2 (by decide) (hT _ hw_66) (fun _ h9 => h9) rfl dB_freshOnward_5 ?_
  have hP9 := hP.sub (ws' := [(x, .inr (2, [.long T, .ref t1, .ref o, .ref q, .ref r, .int 0, .int f2])), (t1, .inl (cI, 40, .inl tc)), (o, .inr (1, [.ref o1, .ref o2, .long (bw_q f1 co (bw_nc so T))])), (q, .inr (1, [.ref q1, .ref q2, .long cb])), (r, .inr (0, [.ref r1])), (o1, .inl (cL, 40, .inr (.inl so))), (o2, .inl (cL, 40, .inr (.inl (bw_q f1 go (bw_ng so T go))))), (q1, .inl (cL, 40, .inr (.inl sb))), (q2, .inl (cL, 40, .inr (.inl gb))), (r1, .inl (cL, 40, .inr (.inl (bw_q f1 bl (bw_nl so sb T go bl)))))]) [0, 1, 2, 3, 4, 5, 6, 7, 8, 9] rfl
  have hD9 := hD.sub (ws' := [(x, .inr (2, [.long T, .ref t1, .ref o, .ref q, .ref r, .int 0, .int f2])), (t1, .inl (cI, 40, .inl tc)), (o, .inr (1, [.ref o1, .ref o2, .long (bw_q f1 co (bw_nc so T))])), (q, .inr (1, [.ref q1, .ref q2, .long cb])), (r, .inr (0, [.ref r1])), (o1, .inl (cL, 40, .inr (.inl so))), (o2, .inl (cL, 40, .inr (.inl (bw_q f1 go (bw_ng so T go))))), (q1, .inl (cL, 40, .inr (.inl sb))), (q2, .inl (cL, 40, .inr (.inl gb))), (r1, .inl (cL, 40, .inr (.inl (bw_q f1 bl (bw_nl so sb T go bl)))))]) [0, 1, 2, 3, 4, 5, 6, 7, 8, 9] (by decide) rfl
  exact W.aret (v := .ref o) hx hb hr (Or.inl ⟨_, rfl⟩) (Or.inr ⟨_, rfl⟩) (fun t9 ht9 hW9 => ⟨⟨(), _, rfl, trivial, rfl, by rw [ht9]; exact hP9, by exact hD9⟩, hS.F ht9⟩) hS.2.2 dB_freshOnward_8
set_option maxHeartbeats 4000000 in
set_option maxRecDepth 100000 in
theorem c_freshRounds (l : Launch) (dC : Nat → ClassId) (dI : Nat → Nat → Nat) (x t1 o o1 o2 q q1 q2 r r1 : Nat) (cI cL : ClassId) (T : Int64) (tc : Nat → Int32) (so go : Nat → Int64) (co : Int64) (sb gb : Nat → Int64) (cb : Int64) (bl : Nat → Int64) (f1 f2 : Int32) (sz : Nat) : Met l yB_freshRounds wsB_freshRounds ({ frames := 5, cells := 0, slots := 0, locals := 121 } : Room) (bw_Wr (dC, dI) [(cI, .int), (cL, .long)] [(x, .inr (2, [.long T, .ref t1, .ref o, .ref q, .ref r, .int f1, .int f2])), (t1, .inl (cI, 40, .inl tc)), (o, .inr (1, [.ref o1, .ref o2, .long co])), (q, .inr (1, [.ref q1, .ref q2, .long cb])), (r, .inr (0, [.ref r1])), (o1, .inl (cL, 40, .inr (.inl so))), (o2, .inl (cL, 40, .inr (.inl go))), (q1, .inl (cL, 40, .inr (.inl sb))), (q2, .inl (cL, 40, .inr (.inl gb))), (r1, .inl (cL, 40, .inr (.inl bl)))] sz [.ref x]) (va_Qr (S := Unit) (fun _ => True) (fun (_ : Unit) (ra : Nat) t => ra = r ∧ va_P (dC, dI) vwCl [(x, .inr (2, [.long T, .ref t1, .ref o, .ref q, .ref r, .int 0, .int f2])), (t1, .inl (cI, 40, .inl tc)), (o, .inr (1, [.ref o1, .ref o2, .long (bw_q f1 co (bw_nc so T))])), (q, .inr (1, [.ref q1, .ref q2, .long cb])), (r, .inr (0, [.ref r1])), (o1, .inl (cL, 40, .inr (.inl so))), (o2, .inl (cL, 40, .inr (.inl (bw_q f1 go (bw_ng so T go))))), (q1, .inl (cL, 40, .inr (.inl sb))), (q2, .inl (cL, 40, .inr (.inl gb))), (r1, .inl (cL, 40, .inr (.inl (bw_q f1 bl (bw_nl so sb T go bl)))))] t.heap ∧ va_D (va_A [(x, .inr (2, [.long T, .ref t1, .ref o, .ref q, .ref r, .int f1, .int f2])), (t1, .inl (cI, 40, .inl tc)), (o, .inr (1, [.ref o1, .ref o2, .long co])), (q, .inr (1, [.ref q1, .ref q2, .long cb])), (r, .inr (0, [.ref r1])), (o1, .inl (cL, 40, .inr (.inl so))), (o2, .inl (cL, 40, .inr (.inl go))), (q1, .inl (cL, 40, .inr (.inl sb))), (q2, .inl (cL, 40, .inr (.inl gb))), (r1, .inl (cL, 40, .inr (.inl bl)))] sz) [(x, .inr (2, [.long T, .ref t1, .ref o, .ref q, .ref r, .int 0, .int f2])), (t1, .inl (cI, 40, .inl tc)), (o, .inr (1, [.ref o1, .ref o2, .long (bw_q f1 co (bw_nc so T))])), (q, .inr (1, [.ref q1, .ref q2, .long cb])), (r, .inr (0, [.ref r1])), (o1, .inl (cL, 40, .inr (.inl so))), (o2, .inl (cL, 40, .inr (.inl (bw_q f1 go (bw_ng so T go))))), (q1, .inl (cL, 40, .inr (.inl sb))), (q2, .inl (cL, 40, .inr (.inl gb))), (r1, .inl (cL, 40, .inr (.inl (bw_q f1 bl (bw_nl so sb T go bl)))))]) (va_A [(x, .inr (2, [.long T, .ref t1, .ref o, .ref q, .ref r, .int f1, .int f2])), (t1, .inl (cI, 40, .inl tc)), (o, .inr (1, [.ref o1, .ref o2, .long co])), (q, .inr (1, [.ref q1, .ref q2, .long cb])), (r, .inr (0, [.ref r1])), (o1, .inl (cL, 40, .inr (.inl so))), (o2, .inl (cL, 40, .inr (.inl go))), (q1, .inl (cL, 40, .inr (.inl sb))), (q2, .inl (cL, 40, .inr (.inl gb))), (r1, .inl (cL, 40, .inr (.inl bl)))] sz)) 0 0 (va_A [(x, .inr (2, [.long T, .ref t1, .ref o, .ref q, .ref r, .int f1, .int f2])), (t1, .inl (cI, 40, .inl tc)), (o, .inr (1, [.ref o1, .ref o2, .long co])), (q, .inr (1, [.ref q1, .ref q2, .long cb])), (r, .inr (0, [.ref r1])), (o1, .inl (cL, 40, .inr (.inl so))), (o2, .inl (cL, 40, .inr (.inl go))), (q1, .inl (cL, 40, .inr (.inl sb))), (q2, .inl (cL, 40, .inr (.inl gb))), (r1, .inl (cL, 40, .inr (.inl bl)))] sz) := by
  refine Met.ofW (cc := cB_freshRounds) (maxL := 1) (ret := (some (.object "BlockWays$Rounds"))) (by decide) rfl ?_
  intro p e s m args below meth c s₁ B hml hv
  obtain ⟨rfl, hsz, hP, hK, hN, hD0⟩ := hv
  have hx := B.exec
  have hb := B.bytes
  have hr := B.returns
  have hts := atoms_spec (ws := wsB_freshRounds) B.pre
  have hT : ∀ w ∈ bwB, w.before _ s = true := fun w h => hts w (List.mem_cons_of_mem _ h)
  have hown : s.vm.findClass RB = some m.cls := findClass_of_methodNamed B.named
  have hlocks := B.notSynchronized
  subst hsz
  have hD := hD0.self (sz := s.heap.size)
  generalize hAe : va_A [(x, .inr (2, [.long T, .ref t1, .ref o, .ref q, .ref r, .int f1, .int f2])), (t1, .inl (cI, 40, .inl tc)), (o, .inr (1, [.ref o1, .ref o2, .long co])), (q, .inr (1, [.ref q1, .ref q2, .long cb])), (r, .inr (0, [.ref r1])), (o1, .inl (cL, 40, .inr (.inl so))), (o2, .inl (cL, 40, .inr (.inl go))), (q1, .inl (cL, 40, .inr (.inl sb))), (q2, .inl (cL, 40, .inr (.inl gb))), (r1, .inl (cL, 40, .inr (.inl bl)))] s.heap.size = A at hD ⊢
  have hA : ∀ q : Nat, s.heap.size ≤ q → A q := fun q h => by rw [← hAe]; exact Or.inr h
  have hS : va_S A s.heap s.heap [] := va_S.rf
  have hP : va_P (dC, dI) vwCl [(x, .inr (2, [.long T, .ref t1, .ref o, .ref q, .ref r, .int f1, .int f2])), (t1, .inl (cI, 40, .inl tc)), (o, .inr (1, [.ref o1, .ref o2, .long co])), (q, .inr (1, [.ref q1, .ref q2, .long cb])), (r, .inr (0, [.ref r1])), (o1, .inl (cL, 40, .inr (.inl so))), (o2, .inl (cL, 40, .inr (.inl go))), (q1, .inl (cL, 40, .inr (.inl sb))), (q2, .inl (cL, 40, .inr (.inl gb))), (r1, .inl (cL, 40, .inr (.inl bl)))] s.heap := hP
  have hl := lv_entry ([.ref x]) (n := 1) (Nat.le_of_ble_eq_true rfl)
  rw [lg_entry_eq]
  generalize (lg_sl ([.ref x]) ++ List.replicate (1 - (lg_sl ([.ref x])).length) Slot.unset).toArray = ls at hl ⊢
  have hl : lv_has ls 1 [(0, .ref x)] := hl
  refine lv_aload_n hx hb dB_freshRounds_0 rfl (lv_at hl 0 rfl) ?_
  have hPc := hP.sub (ws' := [(x, .inr (2, [.long T, .ref t1, .ref o, .ref q, .ref r, .int f1, .int f2])), (t1, .inl (cI, 40, .inl tc)), (o, .inr (1, [.ref o1, .ref o2, .long co])), (q, .inr (1, [.ref q1, .ref q2, .long cb])), (r, .inr (0, [.ref r1])), (o1, .inl (cL, 40, .inr (.inl so))), (o2, .inl (cL, 40, .inr (.inl go))), (q1, .inl (cL, 40, .inr (.inl sb))), (q2, .inl (cL, 40, .inr (.inl gb))), (r1, .inl (cL, 40, .inr (.inl bl)))]) [0, 1, 2, 3, 4, 5, 6, 7, 8, 9] rfl
  have hDc := hD.sub (ws' := [(x, .inr (2, [.long T, .ref t1, .ref o, .ref q, .ref r, .int f1, .int f2])), (t1, .inl (cI, 40, .inl tc)), (o, .inr (1, [.ref o1, .ref o2, .long co])), (q, .inr (1, [.ref q1, .ref q2, .long cb])), (r, .inr (0, [.ref r1])), (o1, .inl (cL, 40, .inr (.inl so))), (o2, .inl (cL, 40, .inr (.inl go))), (q1, .inl (cL, 40, .inr (.inl sb))), (q2, .inl (cL, 40, .inr (.inl gb))), (r1, .inl (cL, 40, .inr (.inl bl)))]) [0, 1, 2, 3, 4, 5, 6, 7, 8, 9] (by decide) rfl
  have hKc := hK.sub (tys' := [(cI, .int), (cL, .long)]) [0, 1] rfl
  have hFc := va_free (wc := [(x, .inr (2, [.long T, .ref t1, .ref o, .ref q, .ref r, .int f1, .int f2])), (t1, .inl (cI, 40, .inl tc)), (o, .inr (1, [.ref o1, .ref o2, .long co])), (q, .inr (1, [.ref q1, .ref q2, .long cb])), (r, .inr (0, [.ref r1])), (o1, .inl (cL, 40, .inr (.inl so))), (o2, .inl (cL, 40, .inr (.inl go))), (q1, .inl (cL, 40, .inr (.inl sb))), (q2, .inl (cL, 40, .inr (.inl gb))), (r1, .inl (cL, 40, .inr (.inl bl)))]) hD hS hA [0, 1, 2, 3, 4, 5, 6, 7, 8, 9] rfl
  refine va_callv (va_runV (As := []) (rest := []) ⟨hx, hb, hml, hown, hT⟩ (c_renewOnward l dC dI x t1 o o1 o2 q q1 q2 r r1 cI cL T tc so go co sb gb cb bl f1 f2 s.heap.size) (cwV 0 hT g_B_136 rfl rfl rfl (by decide +kernel) ⟨Nat.le_of_ble_eq_true rfl, Nat.le_of_ble_eq_true rfl⟩) (bw_qV hPc hKc hN hDc (ci := 2) (q0 := 0) rfl rfl) rfl rfl hl.1 rfl (lv_room (Nat.le_of_ble_eq_true rfl)) dB_freshRounds_1 ⟨Nat.le_of_ble_eq_true rfl, Nat.le_of_ble_eq_true rfl⟩) hS (fun q _ h => hFc q h) hFc (fun u_1 t_1 H1 locs ht hvm hw_1 hB hz1 hk1 hS => ?_)
  obtain ⟨hP1, hD1⟩ := hB
  rw [ht] at hP1
  obtain ⟨hP, hD⟩ := va_join (wr := []) (w1 := [(x, .inr (2, [.long T, .ref t1, .ref o, .ref q, .ref r, .int 0, .int f2])), (t1, .inl (cI, 40, .inl tc)), (o, .inr (1, [.ref o1, .ref o2, .long (bw_q f1 co (bw_nc so T))])), (q, .inr (1, [.ref q1, .ref q2, .long cb])), (r, .inr (0, [.ref r1])), (o1, .inl (cL, 40, .inr (.inl so))), (o2, .inl (cL, 40, .inr (.inl (bw_q f1 go (bw_ng so T go))))), (q1, .inl (cL, 40, .inr (.inl sb))), (q2, .inl (cL, 40, .inr (.inl gb))), (r1, .inl (cL, 40, .inr (.inl (bw_q f1 bl (bw_nl so sb T go bl)))))]) hP hD [0, 1, 2, 3, 4, 5, 6, 7, 8, 9] [] rfl rfl (by decide) (by decide) hk1 hFc hP1 hD1
  generalize H1 = H at hP hS ⊢
  have hP : va_P (dC, dI) vwCl [(x, .inr (2, [.long T, .ref t1, .ref o, .ref q, .ref r, .int 0, .int f2])), (t1, .inl (cI, 40, .inl tc)), (o, .inr (1, [.ref o1, .ref o2, .long (bw_q f1 co (bw_nc so T))])), (q, .inr (1, [.ref q1, .ref q2, .long cb])), (r, .inr (0, [.ref r1])), (o1, .inl (cL, 40, .inr (.inl so))), (o2, .inl (cL, 40, .inr (.inl (bw_q f1 go (bw_ng so T go))))), (q1, .inl (cL, 40, .inr (.inl sb))), (q2, .inl (cL, 40, .inr (.inl gb))), (r1, .inl (cL, 40, .inr (.inl (bw_q f1 bl (bw_nl so sb T go bl)))))] H := hP
  have hD : va_D A [(x, .inr (2, [.long T, .ref t1, .ref o, .ref q, .ref r, .int 0, .int f2])), (t1, .inl (cI, 40, .inl tc)), (o, .inr (1, [.ref o1, .ref o2, .long (bw_q f1 co (bw_nc so T))])), (q, .inr (1, [.ref q1, .ref q2, .long cb])), (r, .inr (0, [.ref r1])), (o1, .inl (cL, 40, .inr (.inl so))), (o2, .inl (cL, 40, .inr (.inl (bw_q f1 go (bw_ng so T go))))), (q1, .inl (cL, 40, .inr (.inl sb))), (q2, .inl (cL, 40, .inr (.inl gb))), (r1, .inl (cL, 40, .inr (.inl (bw_q f1 bl (bw_nl so sb T go bl)))))] := hD
  refine lv_aload_n hx hb dB_freshRounds_4 rfl (lv_at hl 0 rfl) ?_
  refine va_get (D := (dC, dI)) (ci := 2) (v := .ref r) (C := RB) (T := TB) (N := 7) hx hb hT inB hown hK hP 0 rfl rfl 4 (by decide) (hT _ hw_68) (fun _ h9 => h9) rfl dB_freshRounds_5 ?_
  have hP9 := hP.sub (ws' := [(x, .inr (2, [.long T, .ref t1, .ref o, .ref q, .ref r, .int 0, .int f2])), (t1, .inl (cI, 40, .inl tc)), (o, .inr (1, [.ref o1, .ref o2, .long (bw_q f1 co (bw_nc so T))])), (q, .inr (1, [.ref q1, .ref q2, .long cb])), (r, .inr (0, [.ref r1])), (o1, .inl (cL, 40, .inr (.inl so))), (o2, .inl (cL, 40, .inr (.inl (bw_q f1 go (bw_ng so T go))))), (q1, .inl (cL, 40, .inr (.inl sb))), (q2, .inl (cL, 40, .inr (.inl gb))), (r1, .inl (cL, 40, .inr (.inl (bw_q f1 bl (bw_nl so sb T go bl)))))]) [0, 1, 2, 3, 4, 5, 6, 7, 8, 9] rfl
  have hD9 := hD.sub (ws' := [(x, .inr (2, [.long T, .ref t1, .ref o, .ref q, .ref r, .int 0, .int f2])), (t1, .inl (cI, 40, .inl tc)), (o, .inr (1, [.ref o1, .ref o2, .long (bw_q f1 co (bw_nc so T))])), (q, .inr (1, [.ref q1, .ref q2, .long cb])), (r, .inr (0, [.ref r1])), (o1, .inl (cL, 40, .inr (.inl so))), (o2, .inl (cL, 40, .inr (.inl (bw_q f1 go (bw_ng so T go))))), (q1, .inl (cL, 40, .inr (.inl sb))), (q2, .inl (cL, 40, .inr (.inl gb))), (r1, .inl (cL, 40, .inr (.inl (bw_q f1 bl (bw_nl so sb T go bl)))))]) [0, 1, 2, 3, 4, 5, 6, 7, 8, 9] (by decide) rfl
  exact W.aret (v := .ref r) hx hb hr (Or.inl ⟨_, rfl⟩) (Or.inr ⟨_, rfl⟩) (fun t9 ht9 hW9 => ⟨⟨(), _, rfl, trivial, rfl, by rw [ht9]; exact hP9, by exact hD9⟩, hS.F ht9⟩) hS.2.2 dB_freshRounds_8
set_option maxHeartbeats 4000000 in
set_option maxRecDepth 100000 in
theorem c_rO0 (l : Launch) (dC : Nat → ClassId) (dI : Nat → Nat → Nat) (x t1 o o1 o2 q q1 q2 r r1 : Nat) (cI cL : ClassId) (T : Int64) (tc : Nat → Int32) (so go : Nat → Int64) (co : Int64) (sb gb : Nat → Int64) (cb : Int64) (bl : Nat → Int64) (f2 : Int32) (sz : Nat) : Met l yB_renewOnward wsB_renewOnward ({ frames := 4, cells := 0, slots := 0, locals := 101 } : Room) (bw_Wr (dC, dI) [(cI, .int), (cL, .long)] [(x, .inr (2, [.long T, .ref t1, .ref o, .ref q, .ref r, .int 0, .int f2])), (t1, .inl (cI, 40, .inl tc)), (o, .inr (1, [.ref o1, .ref o2, .long co])), (q, .inr (1, [.ref q1, .ref q2, .long cb])), (r, .inr (0, [.ref r1])), (o1, .inl (cL, 40, .inr (.inl so))), (o2, .inl (cL, 40, .inr (.inl go))), (q1, .inl (cL, 40, .inr (.inl sb))), (q2, .inl (cL, 40, .inr (.inl gb))), (r1, .inl (cL, 40, .inr (.inl bl)))] sz [.ref x]) (va_Qv (S := Unit) (fun _ => True) (fun (_ : Unit) t => va_P (dC, dI) vwCl [(x, .inr (2, [.long T, .ref t1, .ref o, .ref q, .ref r, .int 0, .int f2])), (t1, .inl (cI, 40, .inl tc)), (o, .inr (1, [.ref o1, .ref o2, .long co])), (q, .inr (1, [.ref q1, .ref q2, .long cb])), (r, .inr (0, [.ref r1])), (o1, .inl (cL, 40, .inr (.inl so))), (o2, .inl (cL, 40, .inr (.inl go))), (q1, .inl (cL, 40, .inr (.inl sb))), (q2, .inl (cL, 40, .inr (.inl gb))), (r1, .inl (cL, 40, .inr (.inl bl)))] t.heap ∧ va_D (va_A [(x, .inr (2, [.long T, .ref t1, .ref o, .ref q, .ref r, .int 0, .int f2])), (t1, .inl (cI, 40, .inl tc)), (o, .inr (1, [.ref o1, .ref o2, .long co])), (q, .inr (1, [.ref q1, .ref q2, .long cb])), (r, .inr (0, [.ref r1])), (o1, .inl (cL, 40, .inr (.inl so))), (o2, .inl (cL, 40, .inr (.inl go))), (q1, .inl (cL, 40, .inr (.inl sb))), (q2, .inl (cL, 40, .inr (.inl gb))), (r1, .inl (cL, 40, .inr (.inl bl)))] sz) [(x, .inr (2, [.long T, .ref t1, .ref o, .ref q, .ref r, .int 0, .int f2])), (t1, .inl (cI, 40, .inl tc)), (o, .inr (1, [.ref o1, .ref o2, .long co])), (q, .inr (1, [.ref q1, .ref q2, .long cb])), (r, .inr (0, [.ref r1])), (o1, .inl (cL, 40, .inr (.inl so))), (o2, .inl (cL, 40, .inr (.inl go))), (q1, .inl (cL, 40, .inr (.inl sb))), (q2, .inl (cL, 40, .inr (.inl gb))), (r1, .inl (cL, 40, .inr (.inl bl)))]) (va_A [(x, .inr (2, [.long T, .ref t1, .ref o, .ref q, .ref r, .int 0, .int f2])), (t1, .inl (cI, 40, .inl tc)), (o, .inr (1, [.ref o1, .ref o2, .long co])), (q, .inr (1, [.ref q1, .ref q2, .long cb])), (r, .inr (0, [.ref r1])), (o1, .inl (cL, 40, .inr (.inl so))), (o2, .inl (cL, 40, .inr (.inl go))), (q1, .inl (cL, 40, .inr (.inl sb))), (q2, .inl (cL, 40, .inr (.inl gb))), (r1, .inl (cL, 40, .inr (.inl bl)))] sz)) 0 0 (va_A [(x, .inr (2, [.long T, .ref t1, .ref o, .ref q, .ref r, .int 0, .int f2])), (t1, .inl (cI, 40, .inl tc)), (o, .inr (1, [.ref o1, .ref o2, .long co])), (q, .inr (1, [.ref q1, .ref q2, .long cb])), (r, .inr (0, [.ref r1])), (o1, .inl (cL, 40, .inr (.inl so))), (o2, .inl (cL, 40, .inr (.inl go))), (q1, .inl (cL, 40, .inr (.inl sb))), (q2, .inl (cL, 40, .inr (.inl gb))), (r1, .inl (cL, 40, .inr (.inl bl)))] sz) := by
  refine Met.ofW (cc := cB_renewOnward) (maxL := 1) (ret := none) (by decide) rfl ?_
  intro p e s m args below meth c s₁ B hml hv
  obtain ⟨rfl, hsz, hP, hK, hN, hD0⟩ := hv
  have hx := B.exec
  have hb := B.bytes
  have hr := B.returns
  have hts := atoms_spec (ws := wsB_renewOnward) B.pre
  have hT : ∀ w ∈ bwB, w.before _ s = true := fun w h => hts w (List.mem_cons_of_mem _ h)
  have hown : s.vm.findClass RB = some m.cls := findClass_of_methodNamed B.named
  have hlocks := B.notSynchronized
  subst hsz
  have hD := hD0.self (sz := s.heap.size)
  generalize hAe : va_A [(x, .inr (2, [.long T, .ref t1, .ref o, .ref q, .ref r, .int 0, .int f2])), (t1, .inl (cI, 40, .inl tc)), (o, .inr (1, [.ref o1, .ref o2, .long co])), (q, .inr (1, [.ref q1, .ref q2, .long cb])), (r, .inr (0, [.ref r1])), (o1, .inl (cL, 40, .inr (.inl so))), (o2, .inl (cL, 40, .inr (.inl go))), (q1, .inl (cL, 40, .inr (.inl sb))), (q2, .inl (cL, 40, .inr (.inl gb))), (r1, .inl (cL, 40, .inr (.inl bl)))] s.heap.size = A at hD ⊢
  have hA : ∀ q : Nat, s.heap.size ≤ q → A q := fun q h => by rw [← hAe]; exact Or.inr h
  have hS : va_S A s.heap s.heap [] := va_S.rf
  have hP : va_P (dC, dI) vwCl [(x, .inr (2, [.long T, .ref t1, .ref o, .ref q, .ref r, .int 0, .int f2])), (t1, .inl (cI, 40, .inl tc)), (o, .inr (1, [.ref o1, .ref o2, .long co])), (q, .inr (1, [.ref q1, .ref q2, .long cb])), (r, .inr (0, [.ref r1])), (o1, .inl (cL, 40, .inr (.inl so))), (o2, .inl (cL, 40, .inr (.inl go))), (q1, .inl (cL, 40, .inr (.inl sb))), (q2, .inl (cL, 40, .inr (.inl gb))), (r1, .inl (cL, 40, .inr (.inl bl)))] s.heap := hP
  have hl := lv_entry ([.ref x]) (n := 1) (Nat.le_of_ble_eq_true rfl)
  rw [lg_entry_eq]
  generalize (lg_sl ([.ref x]) ++ List.replicate (1 - (lg_sl ([.ref x])).length) Slot.unset).toArray = ls at hl ⊢
  have hl : lv_has ls 1 [(0, .ref x)] := hl
  refine lv_aload_n hx hb dB_renewOnward_0 rfl (lv_at hl 0 rfl) ?_
  refine va_get (D := (dC, dI)) (ci := 2) (v := .int 0) (C := RB) (T := TB) (N := 7) hx hb hT inB hown hK hP 0 rfl rfl 5 (by decide) (hT _ hw_69) (fun _ h9 => h9) rfl dB_renewOnward_1 ?_
  refine lv_if_eq (tgt := 42) hx hb dB_renewOnward_4 (by decide) (fun c_1 => ?_) (fun c_1 => ?_)
  · skip
    have hP9 := hP.sub (ws' := [(x, .inr (2, [.long T, .ref t1, .ref o, .ref q, .ref r, .int 0, .int f2])), (t1, .inl (cI, 40, .inl tc)), (o, .inr (1, [.ref o1, .ref o2, .long co])), (q, .inr (1, [.ref q1, .ref q2, .long cb])), (r, .inr (0, [.ref r1])), (o1, .inl (cL, 40, .inr (.inl so))), (o2, .inl (cL, 40, .inr (.inl go))), (q1, .inl (cL, 40, .inr (.inl sb))), (q2, .inl (cL, 40, .inr (.inl gb))), (r1, .inl (cL, 40, .inr (.inl bl)))]) [0, 1, 2, 3, 4, 5, 6, 7, 8, 9] rfl
    have hD9 := hD.sub (ws' := [(x, .inr (2, [.long T, .ref t1, .ref o, .ref q, .ref r, .int 0, .int f2])), (t1, .inl (cI, 40, .inl tc)), (o, .inr (1, [.ref o1, .ref o2, .long co])), (q, .inr (1, [.ref q1, .ref q2, .long cb])), (r, .inr (0, [.ref r1])), (o1, .inl (cL, 40, .inr (.inl so))), (o2, .inl (cL, 40, .inr (.inl go))), (q1, .inl (cL, 40, .inr (.inl sb))), (q2, .inl (cL, 40, .inr (.inl gb))), (r1, .inl (cL, 40, .inr (.inl bl)))]) [0, 1, 2, 3, 4, 5, 6, 7, 8, 9] (by decide) rfl
    exact W.vret hx hb hr (fun t9 ht9 hW9 => ⟨⟨(), rfl, trivial, by rw [ht9]; exact hP9, by exact hD9⟩, hS.F ht9⟩) hS.2.2 dB_renewOnward_42
  · skip
    exact absurd rfl c_1
set_option maxHeartbeats 4000000 in
set_option maxRecDepth 100000 in
theorem c_fR0 (l : Launch) (dC : Nat → ClassId) (dI : Nat → Nat → Nat) (x t1 o o1 o2 q q1 q2 r r1 : Nat) (cI cL : ClassId) (T : Int64) (tc : Nat → Int32) (so go : Nat → Int64) (co : Int64) (sb gb : Nat → Int64) (cb : Int64) (bl : Nat → Int64) (f2 : Int32) (sz : Nat) : Met l yB_freshRounds wsB_freshRounds ({ frames := 5, cells := 0, slots := 0, locals := 121 } : Room) (bw_Wr (dC, dI) [(cI, .int), (cL, .long)] [(x, .inr (2, [.long T, .ref t1, .ref o, .ref q, .ref r, .int 0, .int f2])), (t1, .inl (cI, 40, .inl tc)), (o, .inr (1, [.ref o1, .ref o2, .long co])), (q, .inr (1, [.ref q1, .ref q2, .long cb])), (r, .inr (0, [.ref r1])), (o1, .inl (cL, 40, .inr (.inl so))), (o2, .inl (cL, 40, .inr (.inl go))), (q1, .inl (cL, 40, .inr (.inl sb))), (q2, .inl (cL, 40, .inr (.inl gb))), (r1, .inl (cL, 40, .inr (.inl bl)))] sz [.ref x]) (va_Qr (S := Unit) (fun _ => True) (fun (_ : Unit) (ra : Nat) t => ra = r ∧ va_P (dC, dI) vwCl [(x, .inr (2, [.long T, .ref t1, .ref o, .ref q, .ref r, .int 0, .int f2])), (t1, .inl (cI, 40, .inl tc)), (o, .inr (1, [.ref o1, .ref o2, .long co])), (q, .inr (1, [.ref q1, .ref q2, .long cb])), (r, .inr (0, [.ref r1])), (o1, .inl (cL, 40, .inr (.inl so))), (o2, .inl (cL, 40, .inr (.inl go))), (q1, .inl (cL, 40, .inr (.inl sb))), (q2, .inl (cL, 40, .inr (.inl gb))), (r1, .inl (cL, 40, .inr (.inl bl)))] t.heap ∧ va_D (va_A [(x, .inr (2, [.long T, .ref t1, .ref o, .ref q, .ref r, .int 0, .int f2])), (t1, .inl (cI, 40, .inl tc)), (o, .inr (1, [.ref o1, .ref o2, .long co])), (q, .inr (1, [.ref q1, .ref q2, .long cb])), (r, .inr (0, [.ref r1])), (o1, .inl (cL, 40, .inr (.inl so))), (o2, .inl (cL, 40, .inr (.inl go))), (q1, .inl (cL, 40, .inr (.inl sb))), (q2, .inl (cL, 40, .inr (.inl gb))), (r1, .inl (cL, 40, .inr (.inl bl)))] sz) [(x, .inr (2, [.long T, .ref t1, .ref o, .ref q, .ref r, .int 0, .int f2])), (t1, .inl (cI, 40, .inl tc)), (o, .inr (1, [.ref o1, .ref o2, .long co])), (q, .inr (1, [.ref q1, .ref q2, .long cb])), (r, .inr (0, [.ref r1])), (o1, .inl (cL, 40, .inr (.inl so))), (o2, .inl (cL, 40, .inr (.inl go))), (q1, .inl (cL, 40, .inr (.inl sb))), (q2, .inl (cL, 40, .inr (.inl gb))), (r1, .inl (cL, 40, .inr (.inl bl)))]) (va_A [(x, .inr (2, [.long T, .ref t1, .ref o, .ref q, .ref r, .int 0, .int f2])), (t1, .inl (cI, 40, .inl tc)), (o, .inr (1, [.ref o1, .ref o2, .long co])), (q, .inr (1, [.ref q1, .ref q2, .long cb])), (r, .inr (0, [.ref r1])), (o1, .inl (cL, 40, .inr (.inl so))), (o2, .inl (cL, 40, .inr (.inl go))), (q1, .inl (cL, 40, .inr (.inl sb))), (q2, .inl (cL, 40, .inr (.inl gb))), (r1, .inl (cL, 40, .inr (.inl bl)))] sz)) 0 0 (va_A [(x, .inr (2, [.long T, .ref t1, .ref o, .ref q, .ref r, .int 0, .int f2])), (t1, .inl (cI, 40, .inl tc)), (o, .inr (1, [.ref o1, .ref o2, .long co])), (q, .inr (1, [.ref q1, .ref q2, .long cb])), (r, .inr (0, [.ref r1])), (o1, .inl (cL, 40, .inr (.inl so))), (o2, .inl (cL, 40, .inr (.inl go))), (q1, .inl (cL, 40, .inr (.inl sb))), (q2, .inl (cL, 40, .inr (.inl gb))), (r1, .inl (cL, 40, .inr (.inl bl)))] sz) := by
  refine Met.ofW (cc := cB_freshRounds) (maxL := 1) (ret := (some (.object "BlockWays$Rounds"))) (by decide) rfl ?_
  intro p e s m args below meth c s₁ B hml hv
  obtain ⟨rfl, hsz, hP, hK, hN, hD0⟩ := hv
  have hx := B.exec
  have hb := B.bytes
  have hr := B.returns
  have hts := atoms_spec (ws := wsB_freshRounds) B.pre
  have hT : ∀ w ∈ bwB, w.before _ s = true := fun w h => hts w (List.mem_cons_of_mem _ h)
  have hown : s.vm.findClass RB = some m.cls := findClass_of_methodNamed B.named
  have hlocks := B.notSynchronized
  subst hsz
  have hD := hD0.self (sz := s.heap.size)
  generalize hAe : va_A [(x, .inr (2, [.long T, .ref t1, .ref o, .ref q, .ref r, .int 0, .int f2])), (t1, .inl (cI, 40, .inl tc)), (o, .inr (1, [.ref o1, .ref o2, .long co])), (q, .inr (1, [.ref q1, .ref q2, .long cb])), (r, .inr (0, [.ref r1])), (o1, .inl (cL, 40, .inr (.inl so))), (o2, .inl (cL, 40, .inr (.inl go))), (q1, .inl (cL, 40, .inr (.inl sb))), (q2, .inl (cL, 40, .inr (.inl gb))), (r1, .inl (cL, 40, .inr (.inl bl)))] s.heap.size = A at hD ⊢
  have hA : ∀ q : Nat, s.heap.size ≤ q → A q := fun q h => by rw [← hAe]; exact Or.inr h
  have hS : va_S A s.heap s.heap [] := va_S.rf
  have hP : va_P (dC, dI) vwCl [(x, .inr (2, [.long T, .ref t1, .ref o, .ref q, .ref r, .int 0, .int f2])), (t1, .inl (cI, 40, .inl tc)), (o, .inr (1, [.ref o1, .ref o2, .long co])), (q, .inr (1, [.ref q1, .ref q2, .long cb])), (r, .inr (0, [.ref r1])), (o1, .inl (cL, 40, .inr (.inl so))), (o2, .inl (cL, 40, .inr (.inl go))), (q1, .inl (cL, 40, .inr (.inl sb))), (q2, .inl (cL, 40, .inr (.inl gb))), (r1, .inl (cL, 40, .inr (.inl bl)))] s.heap := hP
  have hl := lv_entry ([.ref x]) (n := 1) (Nat.le_of_ble_eq_true rfl)
  rw [lg_entry_eq]
  generalize (lg_sl ([.ref x]) ++ List.replicate (1 - (lg_sl ([.ref x])).length) Slot.unset).toArray = ls at hl ⊢
  have hl : lv_has ls 1 [(0, .ref x)] := hl
  refine lv_aload_n hx hb dB_freshRounds_0 rfl (lv_at hl 0 rfl) ?_
  have hPc := hP.sub (ws' := [(x, .inr (2, [.long T, .ref t1, .ref o, .ref q, .ref r, .int 0, .int f2])), (t1, .inl (cI, 40, .inl tc)), (o, .inr (1, [.ref o1, .ref o2, .long co])), (q, .inr (1, [.ref q1, .ref q2, .long cb])), (r, .inr (0, [.ref r1])), (o1, .inl (cL, 40, .inr (.inl so))), (o2, .inl (cL, 40, .inr (.inl go))), (q1, .inl (cL, 40, .inr (.inl sb))), (q2, .inl (cL, 40, .inr (.inl gb))), (r1, .inl (cL, 40, .inr (.inl bl)))]) [0, 1, 2, 3, 4, 5, 6, 7, 8, 9] rfl
  have hDc := hD.sub (ws' := [(x, .inr (2, [.long T, .ref t1, .ref o, .ref q, .ref r, .int 0, .int f2])), (t1, .inl (cI, 40, .inl tc)), (o, .inr (1, [.ref o1, .ref o2, .long co])), (q, .inr (1, [.ref q1, .ref q2, .long cb])), (r, .inr (0, [.ref r1])), (o1, .inl (cL, 40, .inr (.inl so))), (o2, .inl (cL, 40, .inr (.inl go))), (q1, .inl (cL, 40, .inr (.inl sb))), (q2, .inl (cL, 40, .inr (.inl gb))), (r1, .inl (cL, 40, .inr (.inl bl)))]) [0, 1, 2, 3, 4, 5, 6, 7, 8, 9] (by decide) rfl
  have hKc := hK.sub (tys' := [(cI, .int), (cL, .long)]) [0, 1] rfl
  have hFc := va_free (wc := [(x, .inr (2, [.long T, .ref t1, .ref o, .ref q, .ref r, .int 0, .int f2])), (t1, .inl (cI, 40, .inl tc)), (o, .inr (1, [.ref o1, .ref o2, .long co])), (q, .inr (1, [.ref q1, .ref q2, .long cb])), (r, .inr (0, [.ref r1])), (o1, .inl (cL, 40, .inr (.inl so))), (o2, .inl (cL, 40, .inr (.inl go))), (q1, .inl (cL, 40, .inr (.inl sb))), (q2, .inl (cL, 40, .inr (.inl gb))), (r1, .inl (cL, 40, .inr (.inl bl)))]) hD hS hA [0, 1, 2, 3, 4, 5, 6, 7, 8, 9] rfl
  refine va_callv (va_runV (As := []) (rest := []) ⟨hx, hb, hml, hown, hT⟩ (c_rO0 l dC dI x t1 o o1 o2 q q1 q2 r r1 cI cL T tc so go co sb gb cb bl f2 s.heap.size) (cwV 0 hT g_B_136 rfl rfl rfl (by decide +kernel) ⟨Nat.le_of_ble_eq_true rfl, Nat.le_of_ble_eq_true rfl⟩) (bw_qV hPc hKc hN hDc (ci := 2) (q0 := 0) rfl rfl) rfl rfl hl.1 rfl (lv_room (Nat.le_of_ble_eq_true rfl)) dB_freshRounds_1 ⟨Nat.le_of_ble_eq_true rfl, Nat.le_of_ble_eq_true rfl⟩) hS (fun q _ h => hFc q h) hFc (fun u_1 t_1 H1 locs ht hvm hw_1 hB hz1 hk1 hS => ?_)
  obtain ⟨hP1, hD1⟩ := hB
  rw [ht] at hP1
  obtain ⟨hP, hD⟩ := va_join (wr := []) (w1 := [(x, .inr (2, [.long T, .ref t1, .ref o, .ref q, .ref r, .int 0, .int f2])), (t1, .inl (cI, 40, .inl tc)), (o, .inr (1, [.ref o1, .ref o2, .long co])), (q, .inr (1, [.ref q1, .ref q2, .long cb])), (r, .inr (0, [.ref r1])), (o1, .inl (cL, 40, .inr (.inl so))), (o2, .inl (cL, 40, .inr (.inl go))), (q1, .inl (cL, 40, .inr (.inl sb))), (q2, .inl (cL, 40, .inr (.inl gb))), (r1, .inl (cL, 40, .inr (.inl bl)))]) hP hD [0, 1, 2, 3, 4, 5, 6, 7, 8, 9] [] rfl rfl (by decide) (by decide) hk1 hFc hP1 hD1
  generalize H1 = H at hP hS ⊢
  have hP : va_P (dC, dI) vwCl [(x, .inr (2, [.long T, .ref t1, .ref o, .ref q, .ref r, .int 0, .int f2])), (t1, .inl (cI, 40, .inl tc)), (o, .inr (1, [.ref o1, .ref o2, .long co])), (q, .inr (1, [.ref q1, .ref q2, .long cb])), (r, .inr (0, [.ref r1])), (o1, .inl (cL, 40, .inr (.inl so))), (o2, .inl (cL, 40, .inr (.inl go))), (q1, .inl (cL, 40, .inr (.inl sb))), (q2, .inl (cL, 40, .inr (.inl gb))), (r1, .inl (cL, 40, .inr (.inl bl)))] H := hP
  have hD : va_D A [(x, .inr (2, [.long T, .ref t1, .ref o, .ref q, .ref r, .int 0, .int f2])), (t1, .inl (cI, 40, .inl tc)), (o, .inr (1, [.ref o1, .ref o2, .long co])), (q, .inr (1, [.ref q1, .ref q2, .long cb])), (r, .inr (0, [.ref r1])), (o1, .inl (cL, 40, .inr (.inl so))), (o2, .inl (cL, 40, .inr (.inl go))), (q1, .inl (cL, 40, .inr (.inl sb))), (q2, .inl (cL, 40, .inr (.inl gb))), (r1, .inl (cL, 40, .inr (.inl bl)))] := hD
  refine lv_aload_n hx hb dB_freshRounds_4 rfl (lv_at hl 0 rfl) ?_
  refine va_get (D := (dC, dI)) (ci := 2) (v := .ref r) (C := RB) (T := TB) (N := 7) hx hb hT inB hown hK hP 0 rfl rfl 4 (by decide) (hT _ hw_68) (fun _ h9 => h9) rfl dB_freshRounds_5 ?_
  have hP9 := hP.sub (ws' := [(x, .inr (2, [.long T, .ref t1, .ref o, .ref q, .ref r, .int 0, .int f2])), (t1, .inl (cI, 40, .inl tc)), (o, .inr (1, [.ref o1, .ref o2, .long co])), (q, .inr (1, [.ref q1, .ref q2, .long cb])), (r, .inr (0, [.ref r1])), (o1, .inl (cL, 40, .inr (.inl so))), (o2, .inl (cL, 40, .inr (.inl go))), (q1, .inl (cL, 40, .inr (.inl sb))), (q2, .inl (cL, 40, .inr (.inl gb))), (r1, .inl (cL, 40, .inr (.inl bl)))]) [0, 1, 2, 3, 4, 5, 6, 7, 8, 9] rfl
  have hD9 := hD.sub (ws' := [(x, .inr (2, [.long T, .ref t1, .ref o, .ref q, .ref r, .int 0, .int f2])), (t1, .inl (cI, 40, .inl tc)), (o, .inr (1, [.ref o1, .ref o2, .long co])), (q, .inr (1, [.ref q1, .ref q2, .long cb])), (r, .inr (0, [.ref r1])), (o1, .inl (cL, 40, .inr (.inl so))), (o2, .inl (cL, 40, .inr (.inl go))), (q1, .inl (cL, 40, .inr (.inl sb))), (q2, .inl (cL, 40, .inr (.inl gb))), (r1, .inl (cL, 40, .inr (.inl bl)))]) [0, 1, 2, 3, 4, 5, 6, 7, 8, 9] (by decide) rfl
  exact W.aret (v := .ref r) hx hb hr (Or.inl ⟨_, rfl⟩) (Or.inr ⟨_, rfl⟩) (fun t9 ht9 hW9 => ⟨⟨(), _, rfl, trivial, rfl, by rw [ht9]; exact hP9, by exact hD9⟩, hS.F ht9⟩) hS.2.2 dB_freshRounds_8
set_option maxHeartbeats 4000000 in
set_option maxRecDepth 100000 in
theorem c_freshBackward (l : Launch) (dC : Nat → ClassId) (dI : Nat → Nat → Nat) (x t1 o o1 o2 q q1 q2 r r1 : Nat) (cI cL : ClassId) (T : Int64) (tc : Nat → Int32) (so go : Nat → Int64) (co : Int64) (sb gb : Nat → Int64) (cb : Int64) (bl : Nat → Int64) (f1 f2 : Int32) (sz : Nat) : Met l yB_freshBackward wsB_freshBackward ({ frames := 4, cells := 0, slots := 0, locals := 100 } : Room) (bw_Wr (dC, dI) [(cI, .int), (cL, .long)] [(x, .inr (2, [.long T, .ref t1, .ref o, .ref q, .ref r, .int f1, .int f2])), (t1, .inl (cI, 40, .inl tc)), (o, .inr (1, [.ref o1, .ref o2, .long co])), (q, .inr (1, [.ref q1, .ref q2, .long cb])), (r, .inr (0, [.ref r1])), (o1, .inl (cL, 40, .inr (.inl so))), (o2, .inl (cL, 40, .inr (.inl go))), (q1, .inl (cL, 40, .inr (.inl sb))), (q2, .inl (cL, 40, .inr (.inl gb))), (r1, .inl (cL, 40, .inr (.inl bl)))] sz [.ref x]) (va_Qr (S := Unit) (fun _ => True) (fun (_ : Unit) (ra : Nat) t => ra = q ∧ va_P (dC, dI) vwCl [(x, .inr (2, [.long T, .ref t1, .ref o, .ref q, .ref r, .int f1, .int 0])), (t1, .inl (cI, 40, .inl tc)), (o, .inr (1, [.ref o1, .ref o2, .long co])), (q, .inr (1, [.ref q1, .ref q2, .long (bw_q f2 cb (bw_mc sb T tc))])), (r, .inr (0, [.ref r1])), (o1, .inl (cL, 40, .inr (.inl so))), (o2, .inl (cL, 40, .inr (.inl go))), (q1, .inl (cL, 40, .inr (.inl sb))), (q2, .inl (cL, 40, .inr (.inl (bw_q f2 gb (bw_mg sb T tc gb))))), (r1, .inl (cL, 40, .inr (.inl bl)))] t.heap ∧ va_D (va_A [(x, .inr (2, [.long T, .ref t1, .ref o, .ref q, .ref r, .int f1, .int f2])), (t1, .inl (cI, 40, .inl tc)), (o, .inr (1, [.ref o1, .ref o2, .long co])), (q, .inr (1, [.ref q1, .ref q2, .long cb])), (r, .inr (0, [.ref r1])), (o1, .inl (cL, 40, .inr (.inl so))), (o2, .inl (cL, 40, .inr (.inl go))), (q1, .inl (cL, 40, .inr (.inl sb))), (q2, .inl (cL, 40, .inr (.inl gb))), (r1, .inl (cL, 40, .inr (.inl bl)))] sz) [(x, .inr (2, [.long T, .ref t1, .ref o, .ref q, .ref r, .int f1, .int 0])), (t1, .inl (cI, 40, .inl tc)), (o, .inr (1, [.ref o1, .ref o2, .long co])), (q, .inr (1, [.ref q1, .ref q2, .long (bw_q f2 cb (bw_mc sb T tc))])), (r, .inr (0, [.ref r1])), (o1, .inl (cL, 40, .inr (.inl so))), (o2, .inl (cL, 40, .inr (.inl go))), (q1, .inl (cL, 40, .inr (.inl sb))), (q2, .inl (cL, 40, .inr (.inl (bw_q f2 gb (bw_mg sb T tc gb))))), (r1, .inl (cL, 40, .inr (.inl bl)))]) (va_A [(x, .inr (2, [.long T, .ref t1, .ref o, .ref q, .ref r, .int f1, .int f2])), (t1, .inl (cI, 40, .inl tc)), (o, .inr (1, [.ref o1, .ref o2, .long co])), (q, .inr (1, [.ref q1, .ref q2, .long cb])), (r, .inr (0, [.ref r1])), (o1, .inl (cL, 40, .inr (.inl so))), (o2, .inl (cL, 40, .inr (.inl go))), (q1, .inl (cL, 40, .inr (.inl sb))), (q2, .inl (cL, 40, .inr (.inl gb))), (r1, .inl (cL, 40, .inr (.inl bl)))] sz)) 0 0 (va_A [(x, .inr (2, [.long T, .ref t1, .ref o, .ref q, .ref r, .int f1, .int f2])), (t1, .inl (cI, 40, .inl tc)), (o, .inr (1, [.ref o1, .ref o2, .long co])), (q, .inr (1, [.ref q1, .ref q2, .long cb])), (r, .inr (0, [.ref r1])), (o1, .inl (cL, 40, .inr (.inl so))), (o2, .inl (cL, 40, .inr (.inl go))), (q1, .inl (cL, 40, .inr (.inl sb))), (q2, .inl (cL, 40, .inr (.inl gb))), (r1, .inl (cL, 40, .inr (.inl bl)))] sz) := by
  refine Met.ofW (cc := cB_freshBackward) (maxL := 1) (ret := (some (.object "BlockWays$Spread"))) (by decide) rfl ?_
  intro p e s m args below meth c s₁ B hml hv
  obtain ⟨rfl, hsz, hP, hK, hN, hD0⟩ := hv
  have hx := B.exec
  have hb := B.bytes
  have hr := B.returns
  have hts := atoms_spec (ws := wsB_freshBackward) B.pre
  have hT : ∀ w ∈ bwB, w.before _ s = true := fun w h => hts w (List.mem_cons_of_mem _ h)
  have hown : s.vm.findClass RB = some m.cls := findClass_of_methodNamed B.named
  have hlocks := B.notSynchronized
  subst hsz
  have hD := hD0.self (sz := s.heap.size)
  generalize hAe : va_A [(x, .inr (2, [.long T, .ref t1, .ref o, .ref q, .ref r, .int f1, .int f2])), (t1, .inl (cI, 40, .inl tc)), (o, .inr (1, [.ref o1, .ref o2, .long co])), (q, .inr (1, [.ref q1, .ref q2, .long cb])), (r, .inr (0, [.ref r1])), (o1, .inl (cL, 40, .inr (.inl so))), (o2, .inl (cL, 40, .inr (.inl go))), (q1, .inl (cL, 40, .inr (.inl sb))), (q2, .inl (cL, 40, .inr (.inl gb))), (r1, .inl (cL, 40, .inr (.inl bl)))] s.heap.size = A at hD ⊢
  have hA : ∀ q : Nat, s.heap.size ≤ q → A q := fun q h => by rw [← hAe]; exact Or.inr h
  have hS : va_S A s.heap s.heap [] := va_S.rf
  have hP : va_P (dC, dI) vwCl [(x, .inr (2, [.long T, .ref t1, .ref o, .ref q, .ref r, .int f1, .int f2])), (t1, .inl (cI, 40, .inl tc)), (o, .inr (1, [.ref o1, .ref o2, .long co])), (q, .inr (1, [.ref q1, .ref q2, .long cb])), (r, .inr (0, [.ref r1])), (o1, .inl (cL, 40, .inr (.inl so))), (o2, .inl (cL, 40, .inr (.inl go))), (q1, .inl (cL, 40, .inr (.inl sb))), (q2, .inl (cL, 40, .inr (.inl gb))), (r1, .inl (cL, 40, .inr (.inl bl)))] s.heap := hP
  have hl := lv_entry ([.ref x]) (n := 1) (Nat.le_of_ble_eq_true rfl)
  rw [lg_entry_eq]
  generalize (lg_sl ([.ref x]) ++ List.replicate (1 - (lg_sl ([.ref x])).length) Slot.unset).toArray = ls at hl ⊢
  have hl : lv_has ls 1 [(0, .ref x)] := hl
  refine lv_aload_n hx hb dB_freshBackward_0 rfl (lv_at hl 0 rfl) ?_
  refine va_get (D := (dC, dI)) (ci := 2) (v := .int f2) (C := RB) (T := TB) (N := 7) hx hb hT inB hown hK hP 0 rfl rfl 6 (by decide) (hT _ hw_70) (fun _ h9 => h9) rfl dB_freshBackward_1 ?_
  refine lv_if_eq (tgt := 27) hx hb dB_freshBackward_4 (by decide) (fun c_1 => ?_) (fun c_1 => ?_)
  · skip
    subst c_1
    refine lv_aload_n hx hb dB_freshBackward_27 rfl (lv_at hl 0 rfl) ?_
    refine va_get (D := (dC, dI)) (ci := 2) (v := .ref q) (C := RB) (T := TB) (N := 7) hx hb hT inB hown hK hP 0 rfl rfl 3 (by decide) (hT _ hw_67) (fun _ h9 => h9) rfl dB_freshBackward_28 ?_
    have hP9 := hP.sub (ws' := [(x, .inr (2, [.long T, .ref t1, .ref o, .ref q, .ref r, .int f1, .int 0])), (t1, .inl (cI, 40, .inl tc)), (o, .inr (1, [.ref o1, .ref o2, .long co])), (q, .inr (1, [.ref q1, .ref q2, .long cb])), (r, .inr (0, [.ref r1])), (o1, .inl (cL, 40, .inr (.inl so))), (o2, .inl (cL, 40, .inr (.inl go))), (q1, .inl (cL, 40, .inr (.inl sb))), (q2, .inl (cL, 40, .inr (.inl gb))), (r1, .inl (cL, 40, .inr (.inl bl)))]) [0, 1, 2, 3, 4, 5, 6, 7, 8, 9] rfl
    have hD9 := hD.sub (ws' := [(x, .inr (2, [.long T, .ref t1, .ref o, .ref q, .ref r, .int f1, .int 0])), (t1, .inl (cI, 40, .inl tc)), (o, .inr (1, [.ref o1, .ref o2, .long co])), (q, .inr (1, [.ref q1, .ref q2, .long cb])), (r, .inr (0, [.ref r1])), (o1, .inl (cL, 40, .inr (.inl so))), (o2, .inl (cL, 40, .inr (.inl go))), (q1, .inl (cL, 40, .inr (.inl sb))), (q2, .inl (cL, 40, .inr (.inl gb))), (r1, .inl (cL, 40, .inr (.inl bl)))]) [0, 1, 2, 3, 4, 5, 6, 7, 8, 9] (by decide) rfl
    exact W.aret (v := .ref q) hx hb hr (Or.inl ⟨_, rfl⟩) (Or.inr ⟨_, rfl⟩) (fun t9 ht9 hW9 => ⟨⟨(), _, rfl, trivial, rfl, by rw [ht9]; simp only [bw_q_t (rfl : (0 : Int32) = 0)]; exact hP9, by simp only [bw_q_t (rfl : (0 : Int32) = 0)]; exact hD9⟩, hS.F ht9⟩) hS.2.2 dB_freshBackward_31
  · skip
    refine lv_aload_n hx hb dB_freshBackward_7 rfl (lv_at hl 0 rfl) ?_
    refine va_get (D := (dC, dI)) (ci := 2) (v := .ref q) (C := RB) (T := TB) (N := 7) hx hb hT inB hown hK hP 0 rfl rfl 3 (by decide) (hT _ hw_67) (fun _ h9 => h9) rfl dB_freshBackward_8 ?_
    refine lv_aload_n hx hb dB_freshBackward_11 rfl (lv_at hl 0 rfl) ?_
    have hPc := hP.sub (ws' := [(x, .inr (2, [.long T, .ref t1, .ref o, .ref q, .ref r, .int f1, .int f2])), (t1, .inl (cI, 40, .inl tc))]) [0, 1] rfl
    have hKc := hK.sub (tys' := [(cI, .int)]) [0] rfl
    refine vp_callSl (W.runV (As := []) (rest := [.ref q]) ⟨hx, hb, hml, hown, hT⟩ (c_ends l dC dI x t1 o q r cI T tc f1 f2) (cwV 0 hT g_B_146 rfl rfl rfl (by decide +kernel) ⟨Nat.le_of_ble_eq_true rfl, Nat.le_of_ble_eq_true rfl⟩) (bw_pV hPc hKc hN (ci := 2) (q0 := 0) rfl rfl) rfl rfl hl.1 rfl (lv_room (Nat.le_of_ble_eq_true rfl)) dB_freshBackward_12 ⟨Nat.le_of_ble_eq_true rfl, Nat.le_of_ble_eq_true rfl⟩) (fun r_2 hr_2 => ?_)
    rw [hr_2]; clear hr_2
    refine lv_aload_n hx hb dB_freshBackward_15 rfl (lv_at hl 0 rfl) ?_
    refine va_get (D := (dC, dI)) (ci := 2) (v := .long T) (C := RB) (T := TB) (N := 7) hx hb hT inB hown hK hP 0 rfl rfl 0 (by decide) (hT _ hw_64) (fun _ h9 => h9) rfl dB_freshBackward_16 ?_
    have hPc := hP.sub (ws' := [(q, .inr (1, [.ref q1, .ref q2, .long cb])), (q1, .inl (cL, 40, .inr (.inl sb))), (q2, .inl (cL, 40, .inr (.inl gb)))]) [3, 7, 8] rfl
    have hDc := hD.sub (ws' := [(q, .inr (1, [.ref q1, .ref q2, .long cb])), (q1, .inl (cL, 40, .inr (.inl sb))), (q2, .inl (cL, 40, .inr (.inl gb)))]) [3, 7, 8] (by decide) rfl
    have hKc := hK.sub (tys' := [(cL, .long)]) [1] rfl
    have hFc := va_free (wc := [(q, .inr (1, [.ref q1, .ref q2, .long cb])), (q1, .inl (cL, 40, .inr (.inl sb))), (q2, .inl (cL, 40, .inr (.inl gb)))]) hD hS hA [3, 7, 8] rfl
    refine va_callv (va_runV (As := [.long (bw_ends T tc), .long T]) (rest := []) ⟨hx, hb, hml, hown, hT⟩ (c_renewS l dC dI q q1 q2 cL sb gb cb (bw_ends T tc) T s.heap.size) (cwV 2 hT g_B_139 rfl rfl rfl (by decide +kernel) ⟨Nat.le_of_ble_eq_true rfl, Nat.le_of_ble_eq_true rfl⟩) (bw_qV hPc hKc hN hDc (ci := 1) (q0 := 0) rfl rfl) rfl rfl hl.1 rfl (lv_room (Nat.le_of_ble_eq_true rfl)) dB_freshBackward_19 ⟨Nat.le_of_ble_eq_true rfl, Nat.le_of_ble_eq_true rfl⟩) hS (fun q _ h => hFc q h) hFc (fun u_3 t_3 H1 locs ht hvm hw_3 hB hz1 hk1 hS => ?_)
    obtain ⟨hP1, hD1⟩ := hB
    rw [ht] at hP1
    obtain ⟨hP, hD⟩ := va_join (wr := [(x, .inr (2, [.long T, .ref t1, .ref o, .ref q, .ref r, .int f1, .int f2])), (t1, .inl (cI, 40, .inl tc)), (o, .inr (1, [.ref o1, .ref o2, .long co])), (r, .inr (0, [.ref r1])), (o1, .inl (cL, 40, .inr (.inl so))), (o2, .inl (cL, 40, .inr (.inl go))), (r1, .inl (cL, 40, .inr (.inl bl)))]) (w1 := [(q, .inr (1, [.ref q1, .ref q2, .long (bw_flood sb (bw_ends T tc) T)])), (q1, .inl (cL, 40, .inr (.inl sb))), (q2, .inl (cL, 40, .inr (.inl (bw_up (bw_gt sb (bw_ends T tc) (bw_flood sb (bw_ends T tc) T)) gb 40))))]) hP hD [3, 7, 8] [0, 1, 2, 4, 5, 6, 9] rfl rfl (by decide) (by decide) hk1 hFc hP1 hD1
    generalize H1 = H at hP hS ⊢
    have hP : va_P (dC, dI) vwCl [(x, .inr (2, [.long T, .ref t1, .ref o, .ref q, .ref r, .int f1, .int f2])), (t1, .inl (cI, 40, .inl tc)), (o, .inr (1, [.ref o1, .ref o2, .long co])), (r, .inr (0, [.ref r1])), (o1, .inl (cL, 40, .inr (.inl so))), (o2, .inl (cL, 40, .inr (.inl go))), (r1, .inl (cL, 40, .inr (.inl bl))), (q, .inr (1, [.ref q1, .ref q2, .long (bw_flood sb (bw_ends T tc) T)])), (q1, .inl (cL, 40, .inr (.inl sb))), (q2, .inl (cL, 40, .inr (.inl (bw_up (bw_gt sb (bw_ends T tc) (bw_flood sb (bw_ends T tc) T)) gb 40))))] H := hP
    have hD : va_D A [(x, .inr (2, [.long T, .ref t1, .ref o, .ref q, .ref r, .int f1, .int f2])), (t1, .inl (cI, 40, .inl tc)), (o, .inr (1, [.ref o1, .ref o2, .long co])), (r, .inr (0, [.ref r1])), (o1, .inl (cL, 40, .inr (.inl so))), (o2, .inl (cL, 40, .inr (.inl go))), (r1, .inl (cL, 40, .inr (.inl bl))), (q, .inr (1, [.ref q1, .ref q2, .long (bw_flood sb (bw_ends T tc) T)])), (q1, .inl (cL, 40, .inr (.inl sb))), (q2, .inl (cL, 40, .inr (.inl (bw_up (bw_gt sb (bw_ends T tc) (bw_flood sb (bw_ends T tc) T)) gb 40))))] := hD
    refine lv_aload_n hx hb dB_freshBackward_22 rfl (lv_at hl 0 rfl) ?_
    refine lv_iconst (v := 0) hx hb dB_freshBackward_23 (by decide) ?_
    refine va_put (D := (dC, dI)) (ci := 2) (v := .int 0) (ty := .boolean) (C := RB) (T := TB) (N := 7) hx hb hT inB tyB tokB nmB hown hK hP hD hS 0 rfl rfl 6 (by decide) (hT _ hw_70) (fun _ h9 => h9) rfl (by decide +kernel) rfl rfl (Nat.le_of_ble_eq_true rfl) dB_freshBackward_24 (fun H locs hP hD hS => ?_)
    have hP : va_P (dC, dI) vwCl [(x, .inr (2, [.long T, .ref t1, .ref o, .ref q, .ref r, .int f1, .int 0])), (t1, .inl (cI, 40, .inl tc)), (o, .inr (1, [.ref o1, .ref o2, .long co])), (r, .inr (0, [.ref r1])), (o1, .inl (cL, 40, .inr (.inl so))), (o2, .inl (cL, 40, .inr (.inl go))), (r1, .inl (cL, 40, .inr (.inl bl))), (q, .inr (1, [.ref q1, .ref q2, .long (bw_flood sb (bw_ends T tc) T)])), (q1, .inl (cL, 40, .inr (.inl sb))), (q2, .inl (cL, 40, .inr (.inl (bw_up (bw_gt sb (bw_ends T tc) (bw_flood sb (bw_ends T tc) T)) gb 40))))] H := hP
    have hD : va_D A [(x, .inr (2, [.long T, .ref t1, .ref o, .ref q, .ref r, .int f1, .int 0])), (t1, .inl (cI, 40, .inl tc)), (o, .inr (1, [.ref o1, .ref o2, .long co])), (r, .inr (0, [.ref r1])), (o1, .inl (cL, 40, .inr (.inl so))), (o2, .inl (cL, 40, .inr (.inl go))), (r1, .inl (cL, 40, .inr (.inl bl))), (q, .inr (1, [.ref q1, .ref q2, .long (bw_flood sb (bw_ends T tc) T)])), (q1, .inl (cL, 40, .inr (.inl sb))), (q2, .inl (cL, 40, .inr (.inl (bw_up (bw_gt sb (bw_ends T tc) (bw_flood sb (bw_ends T tc) T)) gb 40))))] := hD
    refine lv_aload_n hx hb dB_freshBackward_27 rfl (lv_at hl 0 rfl) ?_
    refine va_get (D := (dC, dI)) (ci := 2) (v := .ref q) (C := RB) (T := TB) (N := 7) hx hb hT inB hown hK hP 0 rfl rfl 3 (by decide) (hT _ hw_67) (fun _ h9 => h9) rfl dB_freshBackward_28 ?_
    have hP9 := hP.sub (ws' := [(x, .inr (2, [.long T, .ref t1, .ref o, .ref q, .ref r, .int f1, .int 0])), (t1, .inl (cI, 40, .inl tc)), (o, .inr (1, [.ref o1, .ref o2, .long co])), (q, .inr (1, [.ref q1, .ref q2, .long (bw_flood sb (bw_ends T tc) T)])), (r, .inr (0, [.ref r1])), (o1, .inl (cL, 40, .inr (.inl so))), (o2, .inl (cL, 40, .inr (.inl go))), (q1, .inl (cL, 40, .inr (.inl sb))), (q2, .inl (cL, 40, .inr (.inl (bw_up (bw_gt sb (bw_ends T tc) (bw_flood sb (bw_ends T tc) T)) gb 40)))), (r1, .inl (cL, 40, .inr (.inl bl)))]) [0, 1, 2, 7, 3, 4, 5, 8, 9, 6] rfl
    have hD9 := hD.sub (ws' := [(x, .inr (2, [.long T, .ref t1, .ref o, .ref q, .ref r, .int f1, .int 0])), (t1, .inl (cI, 40, .inl tc)), (o, .inr (1, [.ref o1, .ref o2, .long co])), (q, .inr (1, [.ref q1, .ref q2, .long (bw_flood sb (bw_ends T tc) T)])), (r, .inr (0, [.ref r1])), (o1, .inl (cL, 40, .inr (.inl so))), (o2, .inl (cL, 40, .inr (.inl go))), (q1, .inl (cL, 40, .inr (.inl sb))), (q2, .inl (cL, 40, .inr (.inl (bw_up (bw_gt sb (bw_ends T tc) (bw_flood sb (bw_ends T tc) T)) gb 40)))), (r1, .inl (cL, 40, .inr (.inl bl)))]) [0, 1, 2, 7, 3, 4, 5, 8, 9, 6] (by decide) rfl
    exact W.aret (v := .ref q) hx hb hr (Or.inl ⟨_, rfl⟩) (Or.inr ⟨_, rfl⟩) (fun t9 ht9 hW9 => ⟨⟨(), _, rfl, trivial, rfl, by rw [ht9]; simp only [bw_q_f c_1]; exact hP9, by simp only [bw_q_f c_1]; exact hD9⟩, hS.F ht9⟩) hS.2.2 dB_freshBackward_31
end
section
set_option maxHeartbeats 4000000 in
set_option maxRecDepth 100000 in
theorem c_block0 (l : Launch) (dC : Nat → ClassId) (dI : Nat → Nat → Nat) (x t1 o o1 o2 q q1 q2 r r1 : Nat) (cI cL : ClassId) (T : Int64) (tc : Nat → Int32) (so go : Nat → Int64) (co : Int64) (sb gb : Nat → Int64) (cb : Int64) (bl : Nat → Int64) (f1 f2 : Int32) (b : Int32) (hb9 : ∀ k, k < 40 → ¬ b = nI k) (sz : Nat) : Met l yB_block wsB_block ({ frames := 1, cells := 0, slots := 0, locals := 20 } : Room) (bw_Wr (dC, dI) [(cI, .int), (cL, .long)] [(x, .inr (2, [.long T, .ref t1, .ref o, .ref q, .ref r, .int f1, .int f2])), (t1, .inl (cI, 40, .inl tc)), (o, .inr (1, [.ref o1, .ref o2, .long co])), (q, .inr (1, [.ref q1, .ref q2, .long cb])), (r, .inr (0, [.ref r1])), (o1, .inl (cL, 40, .inr (.inl so))), (o2, .inl (cL, 40, .inr (.inl go))), (q1, .inl (cL, 40, .inr (.inl sb))), (q2, .inl (cL, 40, .inr (.inl gb))), (r1, .inl (cL, 40, .inr (.inl bl)))] sz [.ref x, .int b]) (va_Qi (S := Unit) (fun r _ => r = 0) (fun (_ : Unit) t => va_P (dC, dI) vwCl [(x, .inr (2, [.long T, .ref t1, .ref o, .ref q, .ref r, .int f1, .int f2])), (t1, .inl (cI, 40, .inl tc)), (o, .inr (1, [.ref o1, .ref o2, .long co])), (q, .inr (1, [.ref q1, .ref q2, .long cb])), (r, .inr (0, [.ref r1])), (o1, .inl (cL, 40, .inr (.inl so))), (o2, .inl (cL, 40, .inr (.inl go))), (q1, .inl (cL, 40, .inr (.inl sb))), (q2, .inl (cL, 40, .inr (.inl gb))), (r1, .inl (cL, 40, .inr (.inl bl)))] t.heap ∧ va_D (va_A [(x, .inr (2, [.long T, .ref t1, .ref o, .ref q, .ref r, .int f1, .int f2])), (t1, .inl (cI, 40, .inl tc)), (o, .inr (1, [.ref o1, .ref o2, .long co])), (q, .inr (1, [.ref q1, .ref q2, .long cb])), (r, .inr (0, [.ref r1])), (o1, .inl (cL, 40, .inr (.inl so))), (o2, .inl (cL, 40, .inr (.inl go))), (q1, .inl (cL, 40, .inr (.inl sb))), (q2, .inl (cL, 40, .inr (.inl gb))), (r1, .inl (cL, 40, .inr (.inl bl)))] sz) [(x, .inr (2, [.long T, .ref t1, .ref o, .ref q, .ref r, .int f1, .int f2])), (t1, .inl (cI, 40, .inl tc)), (o, .inr (1, [.ref o1, .ref o2, .long co])), (q, .inr (1, [.ref q1, .ref q2, .long cb])), (r, .inr (0, [.ref r1])), (o1, .inl (cL, 40, .inr (.inl so))), (o2, .inl (cL, 40, .inr (.inl go))), (q1, .inl (cL, 40, .inr (.inl sb))), (q2, .inl (cL, 40, .inr (.inl gb))), (r1, .inl (cL, 40, .inr (.inl bl)))]) (va_A [(x, .inr (2, [.long T, .ref t1, .ref o, .ref q, .ref r, .int f1, .int f2])), (t1, .inl (cI, 40, .inl tc)), (o, .inr (1, [.ref o1, .ref o2, .long co])), (q, .inr (1, [.ref q1, .ref q2, .long cb])), (r, .inr (0, [.ref r1])), (o1, .inl (cL, 40, .inr (.inl so))), (o2, .inl (cL, 40, .inr (.inl go))), (q1, .inl (cL, 40, .inr (.inl sb))), (q2, .inl (cL, 40, .inr (.inl gb))), (r1, .inl (cL, 40, .inr (.inl bl)))] sz)) 0 0 (va_A [(x, .inr (2, [.long T, .ref t1, .ref o, .ref q, .ref r, .int f1, .int f2])), (t1, .inl (cI, 40, .inl tc)), (o, .inr (1, [.ref o1, .ref o2, .long co])), (q, .inr (1, [.ref q1, .ref q2, .long cb])), (r, .inr (0, [.ref r1])), (o1, .inl (cL, 40, .inr (.inl so))), (o2, .inl (cL, 40, .inr (.inl go))), (q1, .inl (cL, 40, .inr (.inl sb))), (q2, .inl (cL, 40, .inr (.inl gb))), (r1, .inl (cL, 40, .inr (.inl bl)))] sz) := by
  refine Met.ofW (cc := cB_block) (maxL := 2) (ret := (some .boolean)) (by decide) rfl ?_
  intro p e s m args below meth c s₁ B hml hv
  obtain ⟨rfl, hsz, hP, hK, hN, hD0⟩ := hv
  have hx := B.exec
  have hb := B.bytes
  have hr := B.returns
  have hts := atoms_spec (ws := wsB_block) B.pre
  have hT : ∀ w ∈ bwB, w.before _ s = true := fun w h => hts w (List.mem_cons_of_mem _ h)
  have hown : s.vm.findClass RB = some m.cls := findClass_of_methodNamed B.named
  have hlocks := B.notSynchronized
  subst hsz
  have hD := hD0.self (sz := s.heap.size)
  generalize hAe : va_A [(x, .inr (2, [.long T, .ref t1, .ref o, .ref q, .ref r, .int f1, .int f2])), (t1, .inl (cI, 40, .inl tc)), (o, .inr (1, [.ref o1, .ref o2, .long co])), (q, .inr (1, [.ref q1, .ref q2, .long cb])), (r, .inr (0, [.ref r1])), (o1, .inl (cL, 40, .inr (.inl so))), (o2, .inl (cL, 40, .inr (.inl go))), (q1, .inl (cL, 40, .inr (.inl sb))), (q2, .inl (cL, 40, .inr (.inl gb))), (r1, .inl (cL, 40, .inr (.inl bl)))] s.heap.size = A at hD ⊢
  have hA : ∀ q : Nat, s.heap.size ≤ q → A q := fun q h => by rw [← hAe]; exact Or.inr h
  have hS : va_S A s.heap s.heap [] := va_S.rf
  have hP : va_P (dC, dI) vwCl [(x, .inr (2, [.long T, .ref t1, .ref o, .ref q, .ref r, .int f1, .int f2])), (t1, .inl (cI, 40, .inl tc)), (o, .inr (1, [.ref o1, .ref o2, .long co])), (q, .inr (1, [.ref q1, .ref q2, .long cb])), (r, .inr (0, [.ref r1])), (o1, .inl (cL, 40, .inr (.inl so))), (o2, .inl (cL, 40, .inr (.inl go))), (q1, .inl (cL, 40, .inr (.inl sb))), (q2, .inl (cL, 40, .inr (.inl gb))), (r1, .inl (cL, 40, .inr (.inl bl)))] s.heap := hP
  have hl := lv_entry ([.ref x, .int b]) (n := 2) (Nat.le_of_ble_eq_true rfl)
  rw [lg_entry_eq]
  generalize (lg_sl ([.ref x, .int b]) ++ List.replicate (2 - (lg_sl ([.ref x, .int b])).length) Slot.unset).toArray = ls at hl ⊢
  have hl : lv_has ls 2 [(0, .ref x), (1, .int b)] := hl
  refine lv_iload_n hx hb dB_block_0 rfl (lv_at hl 1 rfl) ?_
  refine vp_callSi (W.runS (As := [.int b]) (rest := []) ⟨hx, hb, hml, hown, hT⟩ (c_isB0 l b hb9) (cwS 1 hT g_B_41 rfl rfl rfl (by decide +kernel) ⟨Nat.le_of_ble_eq_true rfl, Nat.le_of_ble_eq_true rfl⟩) preEq rfl rfl hl.1 rfl (lv_room (Nat.le_of_ble_eq_true rfl)) dB_block_1 ⟨Nat.le_of_ble_eq_true rfl, Nat.le_of_ble_eq_true rfl⟩) (fun r_1 hr_1 => ?_)
  rw [hr_1]; clear hr_1
  refine lv_if_eq (tgt := 18) hx hb dB_block_4 (by decide) (fun c_2 => ?_) (fun c_2 => ?_)
  · skip
    refine lv_iconst (v := 0) hx hb dB_block_18 (by decide) ?_
    have hP9 := hP.sub (ws' := [(x, .inr (2, [.long T, .ref t1, .ref o, .ref q, .ref r, .int f1, .int f2])), (t1, .inl (cI, 40, .inl tc)), (o, .inr (1, [.ref o1, .ref o2, .long co])), (q, .inr (1, [.ref q1, .ref q2, .long cb])), (r, .inr (0, [.ref r1])), (o1, .inl (cL, 40, .inr (.inl so))), (o2, .inl (cL, 40, .inr (.inl go))), (q1, .inl (cL, 40, .inr (.inl sb))), (q2, .inl (cL, 40, .inr (.inl gb))), (r1, .inl (cL, 40, .inr (.inl bl)))]) [0, 1, 2, 3, 4, 5, 6, 7, 8, 9] rfl
    have hD9 := hD.sub (ws' := [(x, .inr (2, [.long T, .ref t1, .ref o, .ref q, .ref r, .int f1, .int f2])), (t1, .inl (cI, 40, .inl tc)), (o, .inr (1, [.ref o1, .ref o2, .long co])), (q, .inr (1, [.ref q1, .ref q2, .long cb])), (r, .inr (0, [.ref r1])), (o1, .inl (cL, 40, .inr (.inl so))), (o2, .inl (cL, 40, .inr (.inl go))), (q1, .inl (cL, 40, .inr (.inl sb))), (q2, .inl (cL, 40, .inr (.inl gb))), (r1, .inl (cL, 40, .inr (.inl bl)))]) [0, 1, 2, 3, 4, 5, 6, 7, 8, 9] (by decide) rfl
    exact W.zret (v := 0) hx hb hr rfl (fun t9 ht9 hW9 => ⟨⟨_, (), rfl, rfl, by rw [ht9]; exact hP9, by exact hD9⟩, hS.F ht9⟩) hS.2.2 dB_block_19
  · skip
    exact absurd rfl c_2
set_option maxHeartbeats 4000000 in
set_option maxRecDepth 100000 in
theorem c_blockT (l : Launch) (dC : Nat → ClassId) (dI : Nat → Nat → Nat) (x t1 o o1 o2 q q1 q2 r r1 : Nat) (cI cL : ClassId) (T : Int64) (tc : Nat → Int32) (so go : Nat → Int64) (co : Int64) (sb gb : Nat → Int64) (cb : Int64) (bl : Nat → Int64) (f1 f2 : Int32) (k : Nat) (hk : k < 40) (hT9 : bw_m T k = true) (sz : Nat) : Met l yB_block wsB_block ({ frames := 2, cells := 0, slots := 0, locals := 42 } : Room) (bw_Wr (dC, dI) [(cI, .int), (cL, .long)] [(x, .inr (2, [.long T, .ref t1, .ref o, .ref q, .ref r, .int f1, .int f2])), (t1, .inl (cI, 40, .inl tc)), (o, .inr (1, [.ref o1, .ref o2, .long co])), (q, .inr (1, [.ref q1, .ref q2, .long cb])), (r, .inr (0, [.ref r1])), (o1, .inl (cL, 40, .inr (.inl so))), (o2, .inl (cL, 40, .inr (.inl go))), (q1, .inl (cL, 40, .inr (.inl sb))), (q2, .inl (cL, 40, .inr (.inl gb))), (r1, .inl (cL, 40, .inr (.inl bl)))] sz [.ref x, .int (nI k)]) (va_Qi (S := Unit) (fun r _ => r = 0) (fun (_ : Unit) t => va_P (dC, dI) vwCl [(x, .inr (2, [.long T, .ref t1, .ref o, .ref q, .ref r, .int f1, .int f2])), (t1, .inl (cI, 40, .inl tc)), (o, .inr (1, [.ref o1, .ref o2, .long co])), (q, .inr (1, [.ref q1, .ref q2, .long cb])), (r, .inr (0, [.ref r1])), (o1, .inl (cL, 40, .inr (.inl so))), (o2, .inl (cL, 40, .inr (.inl go))), (q1, .inl (cL, 40, .inr (.inl sb))), (q2, .inl (cL, 40, .inr (.inl gb))), (r1, .inl (cL, 40, .inr (.inl bl)))] t.heap ∧ va_D (va_A [(x, .inr (2, [.long T, .ref t1, .ref o, .ref q, .ref r, .int f1, .int f2])), (t1, .inl (cI, 40, .inl tc)), (o, .inr (1, [.ref o1, .ref o2, .long co])), (q, .inr (1, [.ref q1, .ref q2, .long cb])), (r, .inr (0, [.ref r1])), (o1, .inl (cL, 40, .inr (.inl so))), (o2, .inl (cL, 40, .inr (.inl go))), (q1, .inl (cL, 40, .inr (.inl sb))), (q2, .inl (cL, 40, .inr (.inl gb))), (r1, .inl (cL, 40, .inr (.inl bl)))] sz) [(x, .inr (2, [.long T, .ref t1, .ref o, .ref q, .ref r, .int f1, .int f2])), (t1, .inl (cI, 40, .inl tc)), (o, .inr (1, [.ref o1, .ref o2, .long co])), (q, .inr (1, [.ref q1, .ref q2, .long cb])), (r, .inr (0, [.ref r1])), (o1, .inl (cL, 40, .inr (.inl so))), (o2, .inl (cL, 40, .inr (.inl go))), (q1, .inl (cL, 40, .inr (.inl sb))), (q2, .inl (cL, 40, .inr (.inl gb))), (r1, .inl (cL, 40, .inr (.inl bl)))]) (va_A [(x, .inr (2, [.long T, .ref t1, .ref o, .ref q, .ref r, .int f1, .int f2])), (t1, .inl (cI, 40, .inl tc)), (o, .inr (1, [.ref o1, .ref o2, .long co])), (q, .inr (1, [.ref q1, .ref q2, .long cb])), (r, .inr (0, [.ref r1])), (o1, .inl (cL, 40, .inr (.inl so))), (o2, .inl (cL, 40, .inr (.inl go))), (q1, .inl (cL, 40, .inr (.inl sb))), (q2, .inl (cL, 40, .inr (.inl gb))), (r1, .inl (cL, 40, .inr (.inl bl)))] sz)) 0 0 (va_A [(x, .inr (2, [.long T, .ref t1, .ref o, .ref q, .ref r, .int f1, .int f2])), (t1, .inl (cI, 40, .inl tc)), (o, .inr (1, [.ref o1, .ref o2, .long co])), (q, .inr (1, [.ref q1, .ref q2, .long cb])), (r, .inr (0, [.ref r1])), (o1, .inl (cL, 40, .inr (.inl so))), (o2, .inl (cL, 40, .inr (.inl go))), (q1, .inl (cL, 40, .inr (.inl sb))), (q2, .inl (cL, 40, .inr (.inl gb))), (r1, .inl (cL, 40, .inr (.inl bl)))] sz) := by
  refine Met.ofW (cc := cB_block) (maxL := 2) (ret := (some .boolean)) (by decide) rfl ?_
  intro p e s m args below meth c s₁ B hml hv
  obtain ⟨rfl, hsz, hP, hK, hN, hD0⟩ := hv
  have hx := B.exec
  have hb := B.bytes
  have hr := B.returns
  have hts := atoms_spec (ws := wsB_block) B.pre
  have hT : ∀ w ∈ bwB, w.before _ s = true := fun w h => hts w (List.mem_cons_of_mem _ h)
  have hown : s.vm.findClass RB = some m.cls := findClass_of_methodNamed B.named
  have hlocks := B.notSynchronized
  subst hsz
  have hD := hD0.self (sz := s.heap.size)
  generalize hAe : va_A [(x, .inr (2, [.long T, .ref t1, .ref o, .ref q, .ref r, .int f1, .int f2])), (t1, .inl (cI, 40, .inl tc)), (o, .inr (1, [.ref o1, .ref o2, .long co])), (q, .inr (1, [.ref q1, .ref q2, .long cb])), (r, .inr (0, [.ref r1])), (o1, .inl (cL, 40, .inr (.inl so))), (o2, .inl (cL, 40, .inr (.inl go))), (q1, .inl (cL, 40, .inr (.inl sb))), (q2, .inl (cL, 40, .inr (.inl gb))), (r1, .inl (cL, 40, .inr (.inl bl)))] s.heap.size = A at hD ⊢
  have hA : ∀ q : Nat, s.heap.size ≤ q → A q := fun q h => by rw [← hAe]; exact Or.inr h
  have hS : va_S A s.heap s.heap [] := va_S.rf
  have hP : va_P (dC, dI) vwCl [(x, .inr (2, [.long T, .ref t1, .ref o, .ref q, .ref r, .int f1, .int f2])), (t1, .inl (cI, 40, .inl tc)), (o, .inr (1, [.ref o1, .ref o2, .long co])), (q, .inr (1, [.ref q1, .ref q2, .long cb])), (r, .inr (0, [.ref r1])), (o1, .inl (cL, 40, .inr (.inl so))), (o2, .inl (cL, 40, .inr (.inl go))), (q1, .inl (cL, 40, .inr (.inl sb))), (q2, .inl (cL, 40, .inr (.inl gb))), (r1, .inl (cL, 40, .inr (.inl bl)))] s.heap := hP
  have hl := lv_entry ([.ref x, .int (nI k)]) (n := 2) (Nat.le_of_ble_eq_true rfl)
  rw [lg_entry_eq]
  generalize (lg_sl ([.ref x, .int (nI k)]) ++ List.replicate (2 - (lg_sl ([.ref x, .int (nI k)])).length) Slot.unset).toArray = ls at hl ⊢
  have hl : lv_has ls 2 [(0, .ref x), (1, .int (nI k))] := hl
  refine lv_iload_n hx hb dB_block_0 rfl (lv_at hl 1 rfl) ?_
  refine vp_callSi (W.runS (As := [.int (nI k)]) (rest := []) ⟨hx, hb, hml, hown, hT⟩ (c_isB1 l k (by omega)) (cwS 1 hT g_B_41 rfl rfl rfl (by decide +kernel) ⟨Nat.le_of_ble_eq_true rfl, Nat.le_of_ble_eq_true rfl⟩) preEq rfl rfl hl.1 rfl (lv_room (Nat.le_of_ble_eq_true rfl)) dB_block_1 ⟨Nat.le_of_ble_eq_true rfl, Nat.le_of_ble_eq_true rfl⟩) (fun r_1 hr_1 => ?_)
  rw [hr_1]; clear hr_1
  refine lv_if_eq (tgt := 18) hx hb dB_block_4 (by decide) (fun c_2 => ?_) (fun c_2 => ?_)
  · skip
    exact absurd c_2 (by decide)
  · skip
    refine lv_aload_n hx hb dB_block_7 rfl (lv_at hl 0 rfl) ?_
    refine va_get (D := (dC, dI)) (ci := 2) (v := .long T) (C := RB) (T := TB) (N := 7) hx hb hT inB hown hK hP 0 rfl rfl 0 (by decide) (hT _ hw_64) (fun _ h9 => h9) rfl dB_block_8 ?_
    refine lv_iload_n hx hb dB_block_11 rfl (lv_at hl 1 rfl) ?_
    refine vp_callSi (W.runS (As := [.long T, .int (nI k)]) (rest := []) ⟨hx, hb, hml, hown, hT⟩ (c_has l T k (by omega)) (cwS 2 hT g_B_45 rfl rfl rfl (by decide +kernel) ⟨Nat.le_of_ble_eq_true rfl, Nat.le_of_ble_eq_true rfl⟩) preEq rfl rfl hl.1 rfl (lv_room (Nat.le_of_ble_eq_true rfl)) dB_block_12 ⟨Nat.le_of_ble_eq_true rfl, Nat.le_of_ble_eq_true rfl⟩) (fun r_3 hr_3 => ?_)
    rw [hr_3]; clear hr_3
    refine lv_if_eq (tgt := 20) hx hb dB_block_15 (by decide) (fun c_4 => ?_) (fun c_4 => ?_)
    · skip
      have c_4 := bw_i0.mp c_4
      rw [hT9] at c_4; cases c_4
    · skip
      have c_4 := bw_in0 c_4
      refine lv_iconst (v := 0) hx hb dB_block_18 (by decide) ?_
      have hP9 := hP.sub (ws' := [(x, .inr (2, [.long T, .ref t1, .ref o, .ref q, .ref r, .int f1, .int f2])), (t1, .inl (cI, 40, .inl tc)), (o, .inr (1, [.ref o1, .ref o2, .long co])), (q, .inr (1, [.ref q1, .ref q2, .long cb])), (r, .inr (0, [.ref r1])), (o1, .inl (cL, 40, .inr (.inl so))), (o2, .inl (cL, 40, .inr (.inl go))), (q1, .inl (cL, 40, .inr (.inl sb))), (q2, .inl (cL, 40, .inr (.inl gb))), (r1, .inl (cL, 40, .inr (.inl bl)))]) [0, 1, 2, 3, 4, 5, 6, 7, 8, 9] rfl
      have hD9 := hD.sub (ws' := [(x, .inr (2, [.long T, .ref t1, .ref o, .ref q, .ref r, .int f1, .int f2])), (t1, .inl (cI, 40, .inl tc)), (o, .inr (1, [.ref o1, .ref o2, .long co])), (q, .inr (1, [.ref q1, .ref q2, .long cb])), (r, .inr (0, [.ref r1])), (o1, .inl (cL, 40, .inr (.inl so))), (o2, .inl (cL, 40, .inr (.inl go))), (q1, .inl (cL, 40, .inr (.inl sb))), (q2, .inl (cL, 40, .inr (.inl gb))), (r1, .inl (cL, 40, .inr (.inl bl)))]) [0, 1, 2, 3, 4, 5, 6, 7, 8, 9] (by decide) rfl
      exact W.zret (v := 0) hx hb hr rfl (fun t9 ht9 hW9 => ⟨⟨_, (), rfl, rfl, by rw [ht9]; exact hP9, by exact hD9⟩, hS.F ht9⟩) hS.2.2 dB_block_19
set_option maxHeartbeats 4000000 in
set_option maxRecDepth 100000 in
theorem c_blockF (l : Launch) (dC : Nat → ClassId) (dI : Nat → Nat → Nat) (x t1 o o1 o2 q q1 q2 r r1 : Nat) (cI cL : ClassId) (T : Int64) (tc : Nat → Int32) (so go : Nat → Int64) (co : Int64) (sb gb : Nat → Int64) (cb : Int64) (bl : Nat → Int64) (f1 f2 : Int32) (k : Nat) (hk : k < 40) (hT9 : bw_m T k = false) (sz : Nat) : Met l yB_block wsB_block ({ frames := 2, cells := 0, slots := 0, locals := 42 } : Room) (bw_Wr (dC, dI) [(cI, .int), (cL, .long)] [(x, .inr (2, [.long T, .ref t1, .ref o, .ref q, .ref r, .int f1, .int f2])), (t1, .inl (cI, 40, .inl tc)), (o, .inr (1, [.ref o1, .ref o2, .long co])), (q, .inr (1, [.ref q1, .ref q2, .long cb])), (r, .inr (0, [.ref r1])), (o1, .inl (cL, 40, .inr (.inl so))), (o2, .inl (cL, 40, .inr (.inl go))), (q1, .inl (cL, 40, .inr (.inl sb))), (q2, .inl (cL, 40, .inr (.inl gb))), (r1, .inl (cL, 40, .inr (.inl bl)))] sz [.ref x, .int (nI k)]) (va_Qi (S := Unit) (fun r _ => r = 1) (fun (_ : Unit) t => va_P (dC, dI) vwCl [(x, .inr (2, [.long (T ||| bw_b k), .ref t1, .ref o, .ref q, .ref r, .int 1, .int 1])), (t1, .inl (cI, 40, .inl tc)), (o, .inr (1, [.ref o1, .ref o2, .long co])), (q, .inr (1, [.ref q1, .ref q2, .long cb])), (r, .inr (0, [.ref r1])), (o1, .inl (cL, 40, .inr (.inl so))), (o2, .inl (cL, 40, .inr (.inl go))), (q1, .inl (cL, 40, .inr (.inl sb))), (q2, .inl (cL, 40, .inr (.inl gb))), (r1, .inl (cL, 40, .inr (.inl bl)))] t.heap ∧ va_D (va_A [(x, .inr (2, [.long T, .ref t1, .ref o, .ref q, .ref r, .int f1, .int f2])), (t1, .inl (cI, 40, .inl tc)), (o, .inr (1, [.ref o1, .ref o2, .long co])), (q, .inr (1, [.ref q1, .ref q2, .long cb])), (r, .inr (0, [.ref r1])), (o1, .inl (cL, 40, .inr (.inl so))), (o2, .inl (cL, 40, .inr (.inl go))), (q1, .inl (cL, 40, .inr (.inl sb))), (q2, .inl (cL, 40, .inr (.inl gb))), (r1, .inl (cL, 40, .inr (.inl bl)))] sz) [(x, .inr (2, [.long (T ||| bw_b k), .ref t1, .ref o, .ref q, .ref r, .int 1, .int 1])), (t1, .inl (cI, 40, .inl tc)), (o, .inr (1, [.ref o1, .ref o2, .long co])), (q, .inr (1, [.ref q1, .ref q2, .long cb])), (r, .inr (0, [.ref r1])), (o1, .inl (cL, 40, .inr (.inl so))), (o2, .inl (cL, 40, .inr (.inl go))), (q1, .inl (cL, 40, .inr (.inl sb))), (q2, .inl (cL, 40, .inr (.inl gb))), (r1, .inl (cL, 40, .inr (.inl bl)))]) (va_A [(x, .inr (2, [.long T, .ref t1, .ref o, .ref q, .ref r, .int f1, .int f2])), (t1, .inl (cI, 40, .inl tc)), (o, .inr (1, [.ref o1, .ref o2, .long co])), (q, .inr (1, [.ref q1, .ref q2, .long cb])), (r, .inr (0, [.ref r1])), (o1, .inl (cL, 40, .inr (.inl so))), (o2, .inl (cL, 40, .inr (.inl go))), (q1, .inl (cL, 40, .inr (.inl sb))), (q2, .inl (cL, 40, .inr (.inl gb))), (r1, .inl (cL, 40, .inr (.inl bl)))] sz)) 0 0 (va_A [(x, .inr (2, [.long T, .ref t1, .ref o, .ref q, .ref r, .int f1, .int f2])), (t1, .inl (cI, 40, .inl tc)), (o, .inr (1, [.ref o1, .ref o2, .long co])), (q, .inr (1, [.ref q1, .ref q2, .long cb])), (r, .inr (0, [.ref r1])), (o1, .inl (cL, 40, .inr (.inl so))), (o2, .inl (cL, 40, .inr (.inl go))), (q1, .inl (cL, 40, .inr (.inl sb))), (q2, .inl (cL, 40, .inr (.inl gb))), (r1, .inl (cL, 40, .inr (.inl bl)))] sz) := by
  refine Met.ofW (cc := cB_block) (maxL := 2) (ret := (some .boolean)) (by decide) rfl ?_
  intro p e s m args below meth c s₁ B hml hv
  obtain ⟨rfl, hsz, hP, hK, hN, hD0⟩ := hv
  have hx := B.exec
  have hb := B.bytes
  have hr := B.returns
  have hts := atoms_spec (ws := wsB_block) B.pre
  have hT : ∀ w ∈ bwB, w.before _ s = true := fun w h => hts w (List.mem_cons_of_mem _ h)
  have hown : s.vm.findClass RB = some m.cls := findClass_of_methodNamed B.named
  have hlocks := B.notSynchronized
  subst hsz
  have hD := hD0.self (sz := s.heap.size)
  generalize hAe : va_A [(x, .inr (2, [.long T, .ref t1, .ref o, .ref q, .ref r, .int f1, .int f2])), (t1, .inl (cI, 40, .inl tc)), (o, .inr (1, [.ref o1, .ref o2, .long co])), (q, .inr (1, [.ref q1, .ref q2, .long cb])), (r, .inr (0, [.ref r1])), (o1, .inl (cL, 40, .inr (.inl so))), (o2, .inl (cL, 40, .inr (.inl go))), (q1, .inl (cL, 40, .inr (.inl sb))), (q2, .inl (cL, 40, .inr (.inl gb))), (r1, .inl (cL, 40, .inr (.inl bl)))] s.heap.size = A at hD ⊢
  have hA : ∀ q : Nat, s.heap.size ≤ q → A q := fun q h => by rw [← hAe]; exact Or.inr h
  have hS : va_S A s.heap s.heap [] := va_S.rf
  have hP : va_P (dC, dI) vwCl [(x, .inr (2, [.long T, .ref t1, .ref o, .ref q, .ref r, .int f1, .int f2])), (t1, .inl (cI, 40, .inl tc)), (o, .inr (1, [.ref o1, .ref o2, .long co])), (q, .inr (1, [.ref q1, .ref q2, .long cb])), (r, .inr (0, [.ref r1])), (o1, .inl (cL, 40, .inr (.inl so))), (o2, .inl (cL, 40, .inr (.inl go))), (q1, .inl (cL, 40, .inr (.inl sb))), (q2, .inl (cL, 40, .inr (.inl gb))), (r1, .inl (cL, 40, .inr (.inl bl)))] s.heap := hP
  have hl := lv_entry ([.ref x, .int (nI k)]) (n := 2) (Nat.le_of_ble_eq_true rfl)
  rw [lg_entry_eq]
  generalize (lg_sl ([.ref x, .int (nI k)]) ++ List.replicate (2 - (lg_sl ([.ref x, .int (nI k)])).length) Slot.unset).toArray = ls at hl ⊢
  have hl : lv_has ls 2 [(0, .ref x), (1, .int (nI k))] := hl
  refine lv_iload_n hx hb dB_block_0 rfl (lv_at hl 1 rfl) ?_
  refine vp_callSi (W.runS (As := [.int (nI k)]) (rest := []) ⟨hx, hb, hml, hown, hT⟩ (c_isB1 l k (by omega)) (cwS 1 hT g_B_41 rfl rfl rfl (by decide +kernel) ⟨Nat.le_of_ble_eq_true rfl, Nat.le_of_ble_eq_true rfl⟩) preEq rfl rfl hl.1 rfl (lv_room (Nat.le_of_ble_eq_true rfl)) dB_block_1 ⟨Nat.le_of_ble_eq_true rfl, Nat.le_of_ble_eq_true rfl⟩) (fun r_1 hr_1 => ?_)
  rw [hr_1]; clear hr_1
  refine lv_if_eq (tgt := 18) hx hb dB_block_4 (by decide) (fun c_2 => ?_) (fun c_2 => ?_)
  · skip
    exact absurd c_2 (by decide)
  · skip
    refine lv_aload_n hx hb dB_block_7 rfl (lv_at hl 0 rfl) ?_
    refine va_get (D := (dC, dI)) (ci := 2) (v := .long T) (C := RB) (T := TB) (N := 7) hx hb hT inB hown hK hP 0 rfl rfl 0 (by decide) (hT _ hw_64) (fun _ h9 => h9) rfl dB_block_8 ?_
    refine lv_iload_n hx hb dB_block_11 rfl (lv_at hl 1 rfl) ?_
    refine vp_callSi (W.runS (As := [.long T, .int (nI k)]) (rest := []) ⟨hx, hb, hml, hown, hT⟩ (c_has l T k (by omega)) (cwS 2 hT g_B_45 rfl rfl rfl (by decide +kernel) ⟨Nat.le_of_ble_eq_true rfl, Nat.le_of_ble_eq_true rfl⟩) preEq rfl rfl hl.1 rfl (lv_room (Nat.le_of_ble_eq_true rfl)) dB_block_12 ⟨Nat.le_of_ble_eq_true rfl, Nat.le_of_ble_eq_true rfl⟩) (fun r_3 hr_3 => ?_)
    rw [hr_3]; clear hr_3
    refine lv_if_eq (tgt := 20) hx hb dB_block_15 (by decide) (fun c_4 => ?_) (fun c_4 => ?_)
    · skip
      have c_4 := bw_i0.mp c_4
      refine lv_aload_n hx hb dB_block_20 rfl (lv_at hl 0 rfl) ?_
      refine lv_dup hx hb dB_block_21 rfl ?_
      refine va_get (D := (dC, dI)) (ci := 2) (v := .long T) (C := RB) (T := TB) (N := 7) hx hb hT inB hown hK hP 0 rfl rfl 0 (by decide) (hT _ hw_64) (fun _ h9 => h9) rfl dB_block_22 ?_
      refine lv_iload_n hx hb dB_block_25 rfl (lv_at hl 1 rfl) ?_
      refine vp_callSl (W.runS (As := [.int (nI k)]) (rest := [.long T, .ref x]) ⟨hx, hb, hml, hown, hT⟩ (c_bit l k) (cwS 1 hT g_B_49 rfl rfl rfl (by decide +kernel) ⟨Nat.le_of_ble_eq_true rfl, Nat.le_of_ble_eq_true rfl⟩) preEq rfl rfl hl.1 rfl (lv_room (Nat.le_of_ble_eq_true rfl)) dB_block_26 ⟨Nat.le_of_ble_eq_true rfl, Nat.le_of_ble_eq_true rfl⟩) (fun r_5 hr_5 => ?_)
      rw [hr_5]; clear hr_5
      refine lv_lor hx hb dB_block_29 ?_
      refine va_put (D := (dC, dI)) (ci := 2) (v := .long (T ||| (bw_b k))) (ty := .long) (C := RB) (T := TB) (N := 7) hx hb hT inB tyB tokB nmB hown hK hP hD hS 0 rfl rfl 0 (by decide) (hT _ hw_64) (fun _ h9 => h9) rfl (by decide +kernel) rfl rfl (Nat.le_of_ble_eq_true rfl) dB_block_30 (fun H locs hP hD hS => ?_)
      have hP : va_P (dC, dI) vwCl [(x, .inr (2, [.long (T ||| (bw_b k)), .ref t1, .ref o, .ref q, .ref r, .int f1, .int f2])), (t1, .inl (cI, 40, .inl tc)), (o, .inr (1, [.ref o1, .ref o2, .long co])), (q, .inr (1, [.ref q1, .ref q2, .long cb])), (r, .inr (0, [.ref r1])), (o1, .inl (cL, 40, .inr (.inl so))), (o2, .inl (cL, 40, .inr (.inl go))), (q1, .inl (cL, 40, .inr (.inl sb))), (q2, .inl (cL, 40, .inr (.inl gb))), (r1, .inl (cL, 40, .inr (.inl bl)))] H := hP
      have hD : va_D A [(x, .inr (2, [.long (T ||| (bw_b k)), .ref t1, .ref o, .ref q, .ref r, .int f1, .int f2])), (t1, .inl (cI, 40, .inl tc)), (o, .inr (1, [.ref o1, .ref o2, .long co])), (q, .inr (1, [.ref q1, .ref q2, .long cb])), (r, .inr (0, [.ref r1])), (o1, .inl (cL, 40, .inr (.inl so))), (o2, .inl (cL, 40, .inr (.inl go))), (q1, .inl (cL, 40, .inr (.inl sb))), (q2, .inl (cL, 40, .inr (.inl gb))), (r1, .inl (cL, 40, .inr (.inl bl)))] := hD
      refine lv_aload_n hx hb dB_block_33 rfl (lv_at hl 0 rfl) ?_
      have hPc := hP.sub (ws' := [(x, .inr (2, [.long (T ||| (bw_b k)), .ref t1, .ref o, .ref q, .ref r, .int f1, .int f2]))]) [0] rfl
      have hDc := hD.sub (ws' := [(x, .inr (2, [.long (T ||| (bw_b k)), .ref t1, .ref o, .ref q, .ref r, .int f1, .int f2]))]) [0] (by decide) rfl
      have hKc := hK.sub (tys' := []) [] rfl
      have hFc := va_free (wc := [(x, .inr (2, [.long (T ||| (bw_b k)), .ref t1, .ref o, .ref q, .ref r, .int f1, .int f2]))]) hD hS hA [0] rfl
      refine va_callv (va_runV (As := []) (rest := []) ⟨hx, hb, hml, hown, hT⟩ (c_forget l dC dI x t1 o q r (T ||| (bw_b k)) f1 f2 H.size) (cwV 0 hT g_B_53 rfl rfl rfl (by decide +kernel) ⟨Nat.le_of_ble_eq_true rfl, Nat.le_of_ble_eq_true rfl⟩) (bw_qV hPc hKc hN hDc (ci := 2) (q0 := 0) rfl rfl) rfl rfl hl.1 rfl (lv_room (Nat.le_of_ble_eq_true rfl)) dB_block_34 ⟨Nat.le_of_ble_eq_true rfl, Nat.le_of_ble_eq_true rfl⟩) hS (fun q _ h => hFc q h) hFc (fun u_6 t_6 H1 locs ht hvm hw_6 hB hz1 hk1 hS => ?_)
      obtain ⟨hP1, hD1⟩ := hB
      rw [ht] at hP1
      obtain ⟨hP, hD⟩ := va_join (wr := [(t1, .inl (cI, 40, .inl tc)), (o, .inr (1, [.ref o1, .ref o2, .long co])), (q, .inr (1, [.ref q1, .ref q2, .long cb])), (r, .inr (0, [.ref r1])), (o1, .inl (cL, 40, .inr (.inl so))), (o2, .inl (cL, 40, .inr (.inl go))), (q1, .inl (cL, 40, .inr (.inl sb))), (q2, .inl (cL, 40, .inr (.inl gb))), (r1, .inl (cL, 40, .inr (.inl bl)))]) (w1 := [(x, .inr (2, [.long (T ||| (bw_b k)), .ref t1, .ref o, .ref q, .ref r, .int 1, .int 1]))]) hP hD [0] [1, 2, 3, 4, 5, 6, 7, 8, 9] rfl rfl (by decide) (by decide) hk1 hFc hP1 hD1
      generalize H1 = H at hP hS ⊢
      have hP : va_P (dC, dI) vwCl [(t1, .inl (cI, 40, .inl tc)), (o, .inr (1, [.ref o1, .ref o2, .long co])), (q, .inr (1, [.ref q1, .ref q2, .long cb])), (r, .inr (0, [.ref r1])), (o1, .inl (cL, 40, .inr (.inl so))), (o2, .inl (cL, 40, .inr (.inl go))), (q1, .inl (cL, 40, .inr (.inl sb))), (q2, .inl (cL, 40, .inr (.inl gb))), (r1, .inl (cL, 40, .inr (.inl bl))), (x, .inr (2, [.long (T ||| (bw_b k)), .ref t1, .ref o, .ref q, .ref r, .int 1, .int 1]))] H := hP
      have hD : va_D A [(t1, .inl (cI, 40, .inl tc)), (o, .inr (1, [.ref o1, .ref o2, .long co])), (q, .inr (1, [.ref q1, .ref q2, .long cb])), (r, .inr (0, [.ref r1])), (o1, .inl (cL, 40, .inr (.inl so))), (o2, .inl (cL, 40, .inr (.inl go))), (q1, .inl (cL, 40, .inr (.inl sb))), (q2, .inl (cL, 40, .inr (.inl gb))), (r1, .inl (cL, 40, .inr (.inl bl))), (x, .inr (2, [.long (T ||| (bw_b k)), .ref t1, .ref o, .ref q, .ref r, .int 1, .int 1]))] := hD
      refine lv_iconst (v := 1) hx hb dB_block_37 (by decide) ?_
      have hP9 := hP.sub (ws' := [(x, .inr (2, [.long (T ||| (bw_b k)), .ref t1, .ref o, .ref q, .ref r, .int 1, .int 1])), (t1, .inl (cI, 40, .inl tc)), (o, .inr (1, [.ref o1, .ref o2, .long co])), (q, .inr (1, [.ref q1, .ref q2, .long cb])), (r, .inr (0, [.ref r1])), (o1, .inl (cL, 40, .inr (.inl so))), (o2, .inl (cL, 40, .inr (.inl go))), (q1, .inl (cL, 40, .inr (.inl sb))), (q2, .inl (cL, 40, .inr (.inl gb))), (r1, .inl (cL, 40, .inr (.inl bl)))]) [9, 0, 1, 2, 3, 4, 5, 6, 7, 8] rfl
      have hD9 := hD.sub (ws' := [(x, .inr (2, [.long (T ||| (bw_b k)), .ref t1, .ref o, .ref q, .ref r, .int 1, .int 1])), (t1, .inl (cI, 40, .inl tc)), (o, .inr (1, [.ref o1, .ref o2, .long co])), (q, .inr (1, [.ref q1, .ref q2, .long cb])), (r, .inr (0, [.ref r1])), (o1, .inl (cL, 40, .inr (.inl so))), (o2, .inl (cL, 40, .inr (.inl go))), (q1, .inl (cL, 40, .inr (.inl sb))), (q2, .inl (cL, 40, .inr (.inl gb))), (r1, .inl (cL, 40, .inr (.inl bl)))]) [9, 0, 1, 2, 3, 4, 5, 6, 7, 8] (by decide) rfl
      exact W.zret (v := 1) hx hb hr rfl (fun t9 ht9 hW9 => ⟨⟨_, (), rfl, rfl, by rw [ht9]; exact hP9, by exact hD9⟩, hS.F ht9⟩) hS.2.2 dB_block_38
    · skip
      have c_4 := bw_in0 c_4
      rw [hT9] at c_4; cases c_4
set_option maxHeartbeats 4000000 in
set_option maxRecDepth 100000 in
theorem c_targetA (l : Launch) (dC : Nat → ClassId) (dI : Nat → Nat → Nat) (x t1 o o1 o2 q q1 q2 r r1 : Nat) (cI cL : ClassId) (T : Int64) (tc : Nat → Int32) (so go : Nat → Int64) (co : Int64) (sb gb : Nat → Int64) (cb : Int64) (bl : Nat → Int64) (f1 f2 : Int32) (b : Int32) (hb9 : ∀ k, k < 40 → ¬ b = nI k) (to : Int32) (sz : Nat) : Met l yB_target wsB_target ({ frames := 2, cells := 0, slots := 0, locals := 41 } : Room) (bw_Wr (dC, dI) [(cI, .int), (cL, .long)] [(x, .inr (2, [.long T, .ref t1, .ref o, .ref q, .ref r, .int f1, .int f2])), (t1, .inl (cI, 40, .inl tc)), (o, .inr (1, [.ref o1, .ref o2, .long co])), (q, .inr (1, [.ref q1, .ref q2, .long cb])), (r, .inr (0, [.ref r1])), (o1, .inl (cL, 40, .inr (.inl so))), (o2, .inl (cL, 40, .inr (.inl go))), (q1, .inl (cL, 40, .inr (.inl sb))), (q2, .inl (cL, 40, .inr (.inl gb))), (r1, .inl (cL, 40, .inr (.inl bl)))] sz [.ref x, .int b, .int to]) (va_Qi (S := Unit) (fun r _ => r = 0) (fun (_ : Unit) t => va_P (dC, dI) vwCl [(x, .inr (2, [.long T, .ref t1, .ref o, .ref q, .ref r, .int f1, .int f2])), (t1, .inl (cI, 40, .inl tc)), (o, .inr (1, [.ref o1, .ref o2, .long co])), (q, .inr (1, [.ref q1, .ref q2, .long cb])), (r, .inr (0, [.ref r1])), (o1, .inl (cL, 40, .inr (.inl so))), (o2, .inl (cL, 40, .inr (.inl go))), (q1, .inl (cL, 40, .inr (.inl sb))), (q2, .inl (cL, 40, .inr (.inl gb))), (r1, .inl (cL, 40, .inr (.inl bl)))] t.heap ∧ va_D (va_A [(x, .inr (2, [.long T, .ref t1, .ref o, .ref q, .ref r, .int f1, .int f2])), (t1, .inl (cI, 40, .inl tc)), (o, .inr (1, [.ref o1, .ref o2, .long co])), (q, .inr (1, [.ref q1, .ref q2, .long cb])), (r, .inr (0, [.ref r1])), (o1, .inl (cL, 40, .inr (.inl so))), (o2, .inl (cL, 40, .inr (.inl go))), (q1, .inl (cL, 40, .inr (.inl sb))), (q2, .inl (cL, 40, .inr (.inl gb))), (r1, .inl (cL, 40, .inr (.inl bl)))] sz) [(x, .inr (2, [.long T, .ref t1, .ref o, .ref q, .ref r, .int f1, .int f2])), (t1, .inl (cI, 40, .inl tc)), (o, .inr (1, [.ref o1, .ref o2, .long co])), (q, .inr (1, [.ref q1, .ref q2, .long cb])), (r, .inr (0, [.ref r1])), (o1, .inl (cL, 40, .inr (.inl so))), (o2, .inl (cL, 40, .inr (.inl go))), (q1, .inl (cL, 40, .inr (.inl sb))), (q2, .inl (cL, 40, .inr (.inl gb))), (r1, .inl (cL, 40, .inr (.inl bl)))]) (va_A [(x, .inr (2, [.long T, .ref t1, .ref o, .ref q, .ref r, .int f1, .int f2])), (t1, .inl (cI, 40, .inl tc)), (o, .inr (1, [.ref o1, .ref o2, .long co])), (q, .inr (1, [.ref q1, .ref q2, .long cb])), (r, .inr (0, [.ref r1])), (o1, .inl (cL, 40, .inr (.inl so))), (o2, .inl (cL, 40, .inr (.inl go))), (q1, .inl (cL, 40, .inr (.inl sb))), (q2, .inl (cL, 40, .inr (.inl gb))), (r1, .inl (cL, 40, .inr (.inl bl)))] sz)) 0 0 (va_A [(x, .inr (2, [.long T, .ref t1, .ref o, .ref q, .ref r, .int f1, .int f2])), (t1, .inl (cI, 40, .inl tc)), (o, .inr (1, [.ref o1, .ref o2, .long co])), (q, .inr (1, [.ref q1, .ref q2, .long cb])), (r, .inr (0, [.ref r1])), (o1, .inl (cL, 40, .inr (.inl so))), (o2, .inl (cL, 40, .inr (.inl go))), (q1, .inl (cL, 40, .inr (.inl sb))), (q2, .inl (cL, 40, .inr (.inl gb))), (r1, .inl (cL, 40, .inr (.inl bl)))] sz) := by
  refine Met.ofW (cc := cB_target) (maxL := 3) (ret := (some .boolean)) (by decide) rfl ?_
  intro p e s m args below meth c s₁ B hml hv
  obtain ⟨rfl, hsz, hP, hK, hN, hD0⟩ := hv
  have hx := B.exec
  have hb := B.bytes
  have hr := B.returns
  have hts := atoms_spec (ws := wsB_target) B.pre
  have hT : ∀ w ∈ bwB, w.before _ s = true := fun w h => hts w (List.mem_cons_of_mem _ h)
  have hown : s.vm.findClass RB = some m.cls := findClass_of_methodNamed B.named
  have hlocks := B.notSynchronized
  subst hsz
  have hD := hD0.self (sz := s.heap.size)
  generalize hAe : va_A [(x, .inr (2, [.long T, .ref t1, .ref o, .ref q, .ref r, .int f1, .int f2])), (t1, .inl (cI, 40, .inl tc)), (o, .inr (1, [.ref o1, .ref o2, .long co])), (q, .inr (1, [.ref q1, .ref q2, .long cb])), (r, .inr (0, [.ref r1])), (o1, .inl (cL, 40, .inr (.inl so))), (o2, .inl (cL, 40, .inr (.inl go))), (q1, .inl (cL, 40, .inr (.inl sb))), (q2, .inl (cL, 40, .inr (.inl gb))), (r1, .inl (cL, 40, .inr (.inl bl)))] s.heap.size = A at hD ⊢
  have hA : ∀ q : Nat, s.heap.size ≤ q → A q := fun q h => by rw [← hAe]; exact Or.inr h
  have hS : va_S A s.heap s.heap [] := va_S.rf
  have hP : va_P (dC, dI) vwCl [(x, .inr (2, [.long T, .ref t1, .ref o, .ref q, .ref r, .int f1, .int f2])), (t1, .inl (cI, 40, .inl tc)), (o, .inr (1, [.ref o1, .ref o2, .long co])), (q, .inr (1, [.ref q1, .ref q2, .long cb])), (r, .inr (0, [.ref r1])), (o1, .inl (cL, 40, .inr (.inl so))), (o2, .inl (cL, 40, .inr (.inl go))), (q1, .inl (cL, 40, .inr (.inl sb))), (q2, .inl (cL, 40, .inr (.inl gb))), (r1, .inl (cL, 40, .inr (.inl bl)))] s.heap := hP
  have hl := lv_entry ([.ref x, .int b, .int to]) (n := 3) (Nat.le_of_ble_eq_true rfl)
  rw [lg_entry_eq]
  generalize (lg_sl ([.ref x, .int b, .int to]) ++ List.replicate (3 - (lg_sl ([.ref x, .int b, .int to])).length) Slot.unset).toArray = ls at hl ⊢
  have hl : lv_has ls 3 [(0, .ref x), (1, .int b), (2, .int to)] := hl
  refine lv_aload_n hx hb dB_target_0 rfl (lv_at hl 0 rfl) ?_
  refine lv_iload_n hx hb dB_target_1 rfl (lv_at hl 1 rfl) ?_
  have hPc := hP.sub (ws' := [(x, .inr (2, [.long T, .ref t1, .ref o, .ref q, .ref r, .int f1, .int f2]))]) [0] rfl
  have hKc := hK.sub (tys' := []) [] rfl
  refine vp_callSi (W.runV (As := [.int b]) (rest := []) ⟨hx, hb, hml, hown, hT⟩ (c_isTold0 l dC dI x t1 o q r T f1 f2 b hb9) (cwV 1 hT g_B_56 rfl rfl rfl (by decide +kernel) ⟨Nat.le_of_ble_eq_true rfl, Nat.le_of_ble_eq_true rfl⟩) (bw_pV hPc hKc hN (ci := 2) (q0 := 0) rfl rfl) rfl rfl hl.1 rfl (lv_room (Nat.le_of_ble_eq_true rfl)) dB_target_2 ⟨Nat.le_of_ble_eq_true rfl, Nat.le_of_ble_eq_true rfl⟩) (fun r_1 hr_1 => ?_)
  rw [hr_1]; clear hr_1
  refine lv_if_eq (tgt := 25) hx hb dB_target_5 (by decide) (fun c_2 => ?_) (fun c_2 => ?_)
  · skip
    refine lv_iconst (v := 0) hx hb dB_target_25 (by decide) ?_
    have hP9 := hP.sub (ws' := [(x, .inr (2, [.long T, .ref t1, .ref o, .ref q, .ref r, .int f1, .int f2])), (t1, .inl (cI, 40, .inl tc)), (o, .inr (1, [.ref o1, .ref o2, .long co])), (q, .inr (1, [.ref q1, .ref q2, .long cb])), (r, .inr (0, [.ref r1])), (o1, .inl (cL, 40, .inr (.inl so))), (o2, .inl (cL, 40, .inr (.inl go))), (q1, .inl (cL, 40, .inr (.inl sb))), (q2, .inl (cL, 40, .inr (.inl gb))), (r1, .inl (cL, 40, .inr (.inl bl)))]) [0, 1, 2, 3, 4, 5, 6, 7, 8, 9] rfl
    have hD9 := hD.sub (ws' := [(x, .inr (2, [.long T, .ref t1, .ref o, .ref q, .ref r, .int f1, .int f2])), (t1, .inl (cI, 40, .inl tc)), (o, .inr (1, [.ref o1, .ref o2, .long co])), (q, .inr (1, [.ref q1, .ref q2, .long cb])), (r, .inr (0, [.ref r1])), (o1, .inl (cL, 40, .inr (.inl so))), (o2, .inl (cL, 40, .inr (.inl go))), (q1, .inl (cL, 40, .inr (.inl sb))), (q2, .inl (cL, 40, .inr (.inl gb))), (r1, .inl (cL, 40, .inr (.inl bl)))]) [0, 1, 2, 3, 4, 5, 6, 7, 8, 9] (by decide) rfl
    exact W.zret (v := 0) hx hb hr rfl (fun t9 ht9 hW9 => ⟨⟨_, (), rfl, rfl, by rw [ht9]; exact hP9, by exact hD9⟩, hS.F ht9⟩) hS.2.2 dB_target_26
  · skip
    exact absurd rfl c_2
set_option maxHeartbeats 4000000 in
set_option maxRecDepth 100000 in
theorem c_targetB (l : Launch) (dC : Nat → ClassId) (dI : Nat → Nat → Nat) (x t1 o o1 o2 q q1 q2 r r1 : Nat) (cI cL : ClassId) (T : Int64) (tc : Nat → Int32) (so go : Nat → Int64) (co : Int64) (sb gb : Nat → Int64) (cb : Int64) (bl : Nat → Int64) (f1 f2 : Int32) (k : Nat) (hk : k < 40) (hT9 : bw_m T k = false) (to : Int32) (sz : Nat) : Met l yB_target wsB_target ({ frames := 3, cells := 0, slots := 0, locals := 63 } : Room) (bw_Wr (dC, dI) [(cI, .int), (cL, .long)] [(x, .inr (2, [.long T, .ref t1, .ref o, .ref q, .ref r, .int f1, .int f2])), (t1, .inl (cI, 40, .inl tc)), (o, .inr (1, [.ref o1, .ref o2, .long co])), (q, .inr (1, [.ref q1, .ref q2, .long cb])), (r, .inr (0, [.ref r1])), (o1, .inl (cL, 40, .inr (.inl so))), (o2, .inl (cL, 40, .inr (.inl go))), (q1, .inl (cL, 40, .inr (.inl sb))), (q2, .inl (cL, 40, .inr (.inl gb))), (r1, .inl (cL, 40, .inr (.inl bl)))] sz [.ref x, .int (nI k), .int to]) (va_Qi (S := Unit) (fun r _ => r = 0) (fun (_ : Unit) t => va_P (dC, dI) vwCl [(x, .inr (2, [.long T, .ref t1, .ref o, .ref q, .ref r, .int f1, .int f2])), (t1, .inl (cI, 40, .inl tc)), (o, .inr (1, [.ref o1, .ref o2, .long co])), (q, .inr (1, [.ref q1, .ref q2, .long cb])), (r, .inr (0, [.ref r1])), (o1, .inl (cL, 40, .inr (.inl so))), (o2, .inl (cL, 40, .inr (.inl go))), (q1, .inl (cL, 40, .inr (.inl sb))), (q2, .inl (cL, 40, .inr (.inl gb))), (r1, .inl (cL, 40, .inr (.inl bl)))] t.heap ∧ va_D (va_A [(x, .inr (2, [.long T, .ref t1, .ref o, .ref q, .ref r, .int f1, .int f2])), (t1, .inl (cI, 40, .inl tc)), (o, .inr (1, [.ref o1, .ref o2, .long co])), (q, .inr (1, [.ref q1, .ref q2, .long cb])), (r, .inr (0, [.ref r1])), (o1, .inl (cL, 40, .inr (.inl so))), (o2, .inl (cL, 40, .inr (.inl go))), (q1, .inl (cL, 40, .inr (.inl sb))), (q2, .inl (cL, 40, .inr (.inl gb))), (r1, .inl (cL, 40, .inr (.inl bl)))] sz) [(x, .inr (2, [.long T, .ref t1, .ref o, .ref q, .ref r, .int f1, .int f2])), (t1, .inl (cI, 40, .inl tc)), (o, .inr (1, [.ref o1, .ref o2, .long co])), (q, .inr (1, [.ref q1, .ref q2, .long cb])), (r, .inr (0, [.ref r1])), (o1, .inl (cL, 40, .inr (.inl so))), (o2, .inl (cL, 40, .inr (.inl go))), (q1, .inl (cL, 40, .inr (.inl sb))), (q2, .inl (cL, 40, .inr (.inl gb))), (r1, .inl (cL, 40, .inr (.inl bl)))]) (va_A [(x, .inr (2, [.long T, .ref t1, .ref o, .ref q, .ref r, .int f1, .int f2])), (t1, .inl (cI, 40, .inl tc)), (o, .inr (1, [.ref o1, .ref o2, .long co])), (q, .inr (1, [.ref q1, .ref q2, .long cb])), (r, .inr (0, [.ref r1])), (o1, .inl (cL, 40, .inr (.inl so))), (o2, .inl (cL, 40, .inr (.inl go))), (q1, .inl (cL, 40, .inr (.inl sb))), (q2, .inl (cL, 40, .inr (.inl gb))), (r1, .inl (cL, 40, .inr (.inl bl)))] sz)) 0 0 (va_A [(x, .inr (2, [.long T, .ref t1, .ref o, .ref q, .ref r, .int f1, .int f2])), (t1, .inl (cI, 40, .inl tc)), (o, .inr (1, [.ref o1, .ref o2, .long co])), (q, .inr (1, [.ref q1, .ref q2, .long cb])), (r, .inr (0, [.ref r1])), (o1, .inl (cL, 40, .inr (.inl so))), (o2, .inl (cL, 40, .inr (.inl go))), (q1, .inl (cL, 40, .inr (.inl sb))), (q2, .inl (cL, 40, .inr (.inl gb))), (r1, .inl (cL, 40, .inr (.inl bl)))] sz) := by
  refine Met.ofW (cc := cB_target) (maxL := 3) (ret := (some .boolean)) (by decide) rfl ?_
  intro p e s m args below meth c s₁ B hml hv
  obtain ⟨rfl, hsz, hP, hK, hN, hD0⟩ := hv
  have hx := B.exec
  have hb := B.bytes
  have hr := B.returns
  have hts := atoms_spec (ws := wsB_target) B.pre
  have hT : ∀ w ∈ bwB, w.before _ s = true := fun w h => hts w (List.mem_cons_of_mem _ h)
  have hown : s.vm.findClass RB = some m.cls := findClass_of_methodNamed B.named
  have hlocks := B.notSynchronized
  subst hsz
  have hD := hD0.self (sz := s.heap.size)
  generalize hAe : va_A [(x, .inr (2, [.long T, .ref t1, .ref o, .ref q, .ref r, .int f1, .int f2])), (t1, .inl (cI, 40, .inl tc)), (o, .inr (1, [.ref o1, .ref o2, .long co])), (q, .inr (1, [.ref q1, .ref q2, .long cb])), (r, .inr (0, [.ref r1])), (o1, .inl (cL, 40, .inr (.inl so))), (o2, .inl (cL, 40, .inr (.inl go))), (q1, .inl (cL, 40, .inr (.inl sb))), (q2, .inl (cL, 40, .inr (.inl gb))), (r1, .inl (cL, 40, .inr (.inl bl)))] s.heap.size = A at hD ⊢
  have hA : ∀ q : Nat, s.heap.size ≤ q → A q := fun q h => by rw [← hAe]; exact Or.inr h
  have hS : va_S A s.heap s.heap [] := va_S.rf
  have hP : va_P (dC, dI) vwCl [(x, .inr (2, [.long T, .ref t1, .ref o, .ref q, .ref r, .int f1, .int f2])), (t1, .inl (cI, 40, .inl tc)), (o, .inr (1, [.ref o1, .ref o2, .long co])), (q, .inr (1, [.ref q1, .ref q2, .long cb])), (r, .inr (0, [.ref r1])), (o1, .inl (cL, 40, .inr (.inl so))), (o2, .inl (cL, 40, .inr (.inl go))), (q1, .inl (cL, 40, .inr (.inl sb))), (q2, .inl (cL, 40, .inr (.inl gb))), (r1, .inl (cL, 40, .inr (.inl bl)))] s.heap := hP
  have hl := lv_entry ([.ref x, .int (nI k), .int to]) (n := 3) (Nat.le_of_ble_eq_true rfl)
  rw [lg_entry_eq]
  generalize (lg_sl ([.ref x, .int (nI k), .int to]) ++ List.replicate (3 - (lg_sl ([.ref x, .int (nI k), .int to])).length) Slot.unset).toArray = ls at hl ⊢
  have hl : lv_has ls 3 [(0, .ref x), (1, .int (nI k)), (2, .int to)] := hl
  refine lv_aload_n hx hb dB_target_0 rfl (lv_at hl 0 rfl) ?_
  refine lv_iload_n hx hb dB_target_1 rfl (lv_at hl 1 rfl) ?_
  have hPc := hP.sub (ws' := [(x, .inr (2, [.long T, .ref t1, .ref o, .ref q, .ref r, .int f1, .int f2]))]) [0] rfl
  have hKc := hK.sub (tys' := []) [] rfl
  refine vp_callSi (W.runV (As := [.int (nI k)]) (rest := []) ⟨hx, hb, hml, hown, hT⟩ (c_isTold1 l dC dI x t1 o q r T f1 f2 k (by omega)) (cwV 1 hT g_B_56 rfl rfl rfl (by decide +kernel) ⟨Nat.le_of_ble_eq_true rfl, Nat.le_of_ble_eq_true rfl⟩) (bw_pV hPc hKc hN (ci := 2) (q0 := 0) rfl rfl) rfl rfl hl.1 rfl (lv_room (Nat.le_of_ble_eq_true rfl)) dB_target_2 ⟨Nat.le_of_ble_eq_true rfl, Nat.le_of_ble_eq_true rfl⟩) (fun r_1 hr_1 => ?_)
  rw [hr_1]; clear hr_1
  refine lv_if_eq (tgt := 25) hx hb dB_target_5 (by decide) (fun c_2 => ?_) (fun c_2 => ?_)
  · skip
    have c_2 := bw_i0.mp c_2
    refine lv_iconst (v := 0) hx hb dB_target_25 (by decide) ?_
    have hP9 := hP.sub (ws' := [(x, .inr (2, [.long T, .ref t1, .ref o, .ref q, .ref r, .int f1, .int f2])), (t1, .inl (cI, 40, .inl tc)), (o, .inr (1, [.ref o1, .ref o2, .long co])), (q, .inr (1, [.ref q1, .ref q2, .long cb])), (r, .inr (0, [.ref r1])), (o1, .inl (cL, 40, .inr (.inl so))), (o2, .inl (cL, 40, .inr (.inl go))), (q1, .inl (cL, 40, .inr (.inl sb))), (q2, .inl (cL, 40, .inr (.inl gb))), (r1, .inl (cL, 40, .inr (.inl bl)))]) [0, 1, 2, 3, 4, 5, 6, 7, 8, 9] rfl
    have hD9 := hD.sub (ws' := [(x, .inr (2, [.long T, .ref t1, .ref o, .ref q, .ref r, .int f1, .int f2])), (t1, .inl (cI, 40, .inl tc)), (o, .inr (1, [.ref o1, .ref o2, .long co])), (q, .inr (1, [.ref q1, .ref q2, .long cb])), (r, .inr (0, [.ref r1])), (o1, .inl (cL, 40, .inr (.inl so))), (o2, .inl (cL, 40, .inr (.inl go))), (q1, .inl (cL, 40, .inr (.inl sb))), (q2, .inl (cL, 40, .inr (.inl gb))), (r1, .inl (cL, 40, .inr (.inl bl)))]) [0, 1, 2, 3, 4, 5, 6, 7, 8, 9] (by decide) rfl
    exact W.zret (v := 0) hx hb hr rfl (fun t9 ht9 hW9 => ⟨⟨_, (), rfl, rfl, by rw [ht9]; exact hP9, by exact hD9⟩, hS.F ht9⟩) hS.2.2 dB_target_26
  · skip
    have c_2 := bw_in0 c_2
    rw [hT9] at c_2; cases c_2
set_option maxHeartbeats 4000000 in
set_option maxRecDepth 100000 in
theorem c_targetC (l : Launch) (dC : Nat → ClassId) (dI : Nat → Nat → Nat) (x t1 o o1 o2 q q1 q2 r r1 : Nat) (cI cL : ClassId) (T : Int64) (tc : Nat → Int32) (so go : Nat → Int64) (co : Int64) (sb gb : Nat → Int64) (cb : Int64) (bl : Nat → Int64) (f1 f2 : Int32) (k : Nat) (hk : k < 40) (hT9 : bw_m T k = true) (b : Int32) (hb9 : ∀ k, k < 40 → ¬ b = nI k) (sz : Nat) : Met l yB_target wsB_target ({ frames := 3, cells := 0, slots := 0, locals := 63 } : Room) (bw_Wr (dC, dI) [(cI, .int), (cL, .long)] [(x, .inr (2, [.long T, .ref t1, .ref o, .ref q, .ref r, .int f1, .int f2])), (t1, .inl (cI, 40, .inl tc)), (o, .inr (1, [.ref o1, .ref o2, .long co])), (q, .inr (1, [.ref q1, .ref q2, .long cb])), (r, .inr (0, [.ref r1])), (o1, .inl (cL, 40, .inr (.inl so))), (o2, .inl (cL, 40, .inr (.inl go))), (q1, .inl (cL, 40, .inr (.inl sb))), (q2, .inl (cL, 40, .inr (.inl gb))), (r1, .inl (cL, 40, .inr (.inl bl)))] sz [.ref x, .int (nI k), .int b]) (va_Qi (S := Unit) (fun r _ => r = 0) (fun (_ : Unit) t => va_P (dC, dI) vwCl [(x, .inr (2, [.long T, .ref t1, .ref o, .ref q, .ref r, .int f1, .int f2])), (t1, .inl (cI, 40, .inl tc)), (o, .inr (1, [.ref o1, .ref o2, .long co])), (q, .inr (1, [.ref q1, .ref q2, .long cb])), (r, .inr (0, [.ref r1])), (o1, .inl (cL, 40, .inr (.inl so))), (o2, .inl (cL, 40, .inr (.inl go))), (q1, .inl (cL, 40, .inr (.inl sb))), (q2, .inl (cL, 40, .inr (.inl gb))), (r1, .inl (cL, 40, .inr (.inl bl)))] t.heap ∧ va_D (va_A [(x, .inr (2, [.long T, .ref t1, .ref o, .ref q, .ref r, .int f1, .int f2])), (t1, .inl (cI, 40, .inl tc)), (o, .inr (1, [.ref o1, .ref o2, .long co])), (q, .inr (1, [.ref q1, .ref q2, .long cb])), (r, .inr (0, [.ref r1])), (o1, .inl (cL, 40, .inr (.inl so))), (o2, .inl (cL, 40, .inr (.inl go))), (q1, .inl (cL, 40, .inr (.inl sb))), (q2, .inl (cL, 40, .inr (.inl gb))), (r1, .inl (cL, 40, .inr (.inl bl)))] sz) [(x, .inr (2, [.long T, .ref t1, .ref o, .ref q, .ref r, .int f1, .int f2])), (t1, .inl (cI, 40, .inl tc)), (o, .inr (1, [.ref o1, .ref o2, .long co])), (q, .inr (1, [.ref q1, .ref q2, .long cb])), (r, .inr (0, [.ref r1])), (o1, .inl (cL, 40, .inr (.inl so))), (o2, .inl (cL, 40, .inr (.inl go))), (q1, .inl (cL, 40, .inr (.inl sb))), (q2, .inl (cL, 40, .inr (.inl gb))), (r1, .inl (cL, 40, .inr (.inl bl)))]) (va_A [(x, .inr (2, [.long T, .ref t1, .ref o, .ref q, .ref r, .int f1, .int f2])), (t1, .inl (cI, 40, .inl tc)), (o, .inr (1, [.ref o1, .ref o2, .long co])), (q, .inr (1, [.ref q1, .ref q2, .long cb])), (r, .inr (0, [.ref r1])), (o1, .inl (cL, 40, .inr (.inl so))), (o2, .inl (cL, 40, .inr (.inl go))), (q1, .inl (cL, 40, .inr (.inl sb))), (q2, .inl (cL, 40, .inr (.inl gb))), (r1, .inl (cL, 40, .inr (.inl bl)))] sz)) 0 0 (va_A [(x, .inr (2, [.long T, .ref t1, .ref o, .ref q, .ref r, .int f1, .int f2])), (t1, .inl (cI, 40, .inl tc)), (o, .inr (1, [.ref o1, .ref o2, .long co])), (q, .inr (1, [.ref q1, .ref q2, .long cb])), (r, .inr (0, [.ref r1])), (o1, .inl (cL, 40, .inr (.inl so))), (o2, .inl (cL, 40, .inr (.inl go))), (q1, .inl (cL, 40, .inr (.inl sb))), (q2, .inl (cL, 40, .inr (.inl gb))), (r1, .inl (cL, 40, .inr (.inl bl)))] sz) := by
  refine Met.ofW (cc := cB_target) (maxL := 3) (ret := (some .boolean)) (by decide) rfl ?_
  intro p e s m args below meth c s₁ B hml hv
  obtain ⟨rfl, hsz, hP, hK, hN, hD0⟩ := hv
  have hx := B.exec
  have hb := B.bytes
  have hr := B.returns
  have hts := atoms_spec (ws := wsB_target) B.pre
  have hT : ∀ w ∈ bwB, w.before _ s = true := fun w h => hts w (List.mem_cons_of_mem _ h)
  have hown : s.vm.findClass RB = some m.cls := findClass_of_methodNamed B.named
  have hlocks := B.notSynchronized
  subst hsz
  have hD := hD0.self (sz := s.heap.size)
  generalize hAe : va_A [(x, .inr (2, [.long T, .ref t1, .ref o, .ref q, .ref r, .int f1, .int f2])), (t1, .inl (cI, 40, .inl tc)), (o, .inr (1, [.ref o1, .ref o2, .long co])), (q, .inr (1, [.ref q1, .ref q2, .long cb])), (r, .inr (0, [.ref r1])), (o1, .inl (cL, 40, .inr (.inl so))), (o2, .inl (cL, 40, .inr (.inl go))), (q1, .inl (cL, 40, .inr (.inl sb))), (q2, .inl (cL, 40, .inr (.inl gb))), (r1, .inl (cL, 40, .inr (.inl bl)))] s.heap.size = A at hD ⊢
  have hA : ∀ q : Nat, s.heap.size ≤ q → A q := fun q h => by rw [← hAe]; exact Or.inr h
  have hS : va_S A s.heap s.heap [] := va_S.rf
  have hP : va_P (dC, dI) vwCl [(x, .inr (2, [.long T, .ref t1, .ref o, .ref q, .ref r, .int f1, .int f2])), (t1, .inl (cI, 40, .inl tc)), (o, .inr (1, [.ref o1, .ref o2, .long co])), (q, .inr (1, [.ref q1, .ref q2, .long cb])), (r, .inr (0, [.ref r1])), (o1, .inl (cL, 40, .inr (.inl so))), (o2, .inl (cL, 40, .inr (.inl go))), (q1, .inl (cL, 40, .inr (.inl sb))), (q2, .inl (cL, 40, .inr (.inl gb))), (r1, .inl (cL, 40, .inr (.inl bl)))] s.heap := hP
  have hl := lv_entry ([.ref x, .int (nI k), .int b]) (n := 3) (Nat.le_of_ble_eq_true rfl)
  rw [lg_entry_eq]
  generalize (lg_sl ([.ref x, .int (nI k), .int b]) ++ List.replicate (3 - (lg_sl ([.ref x, .int (nI k), .int b])).length) Slot.unset).toArray = ls at hl ⊢
  have hl : lv_has ls 3 [(0, .ref x), (1, .int (nI k)), (2, .int b)] := hl
  refine lv_aload_n hx hb dB_target_0 rfl (lv_at hl 0 rfl) ?_
  refine lv_iload_n hx hb dB_target_1 rfl (lv_at hl 1 rfl) ?_
  have hPc := hP.sub (ws' := [(x, .inr (2, [.long T, .ref t1, .ref o, .ref q, .ref r, .int f1, .int f2]))]) [0] rfl
  have hKc := hK.sub (tys' := []) [] rfl
  refine vp_callSi (W.runV (As := [.int (nI k)]) (rest := []) ⟨hx, hb, hml, hown, hT⟩ (c_isTold1 l dC dI x t1 o q r T f1 f2 k (by omega)) (cwV 1 hT g_B_56 rfl rfl rfl (by decide +kernel) ⟨Nat.le_of_ble_eq_true rfl, Nat.le_of_ble_eq_true rfl⟩) (bw_pV hPc hKc hN (ci := 2) (q0 := 0) rfl rfl) rfl rfl hl.1 rfl (lv_room (Nat.le_of_ble_eq_true rfl)) dB_target_2 ⟨Nat.le_of_ble_eq_true rfl, Nat.le_of_ble_eq_true rfl⟩) (fun r_1 hr_1 => ?_)
  rw [hr_1]; clear hr_1
  refine lv_if_eq (tgt := 25) hx hb dB_target_5 (by decide) (fun c_2 => ?_) (fun c_2 => ?_)
  · skip
    have c_2 := bw_i0.mp c_2
    rw [hT9] at c_2; cases c_2
  · skip
    have c_2 := bw_in0 c_2
    refine lv_iload_n hx hb dB_target_8 rfl (lv_at hl 2 rfl) ?_
    refine vp_callSi (W.runS (As := [.int b]) (rest := []) ⟨hx, hb, hml, hown, hT⟩ (c_isB0 l b hb9) (cwS 1 hT g_B_41 rfl rfl rfl (by decide +kernel) ⟨Nat.le_of_ble_eq_true rfl, Nat.le_of_ble_eq_true rfl⟩) preEq rfl rfl hl.1 rfl (lv_room (Nat.le_of_ble_eq_true rfl)) dB_target_9 ⟨Nat.le_of_ble_eq_true rfl, Nat.le_of_ble_eq_true rfl⟩) (fun r_3 hr_3 => ?_)
    rw [hr_3]; clear hr_3
    refine lv_if_eq (tgt := 25) hx hb dB_target_12 (by decide) (fun c_4 => ?_) (fun c_4 => ?_)
    · skip
      refine lv_iconst (v := 0) hx hb dB_target_25 (by decide) ?_
      have hP9 := hP.sub (ws' := [(x, .inr (2, [.long T, .ref t1, .ref o, .ref q, .ref r, .int f1, .int f2])), (t1, .inl (cI, 40, .inl tc)), (o, .inr (1, [.ref o1, .ref o2, .long co])), (q, .inr (1, [.ref q1, .ref q2, .long cb])), (r, .inr (0, [.ref r1])), (o1, .inl (cL, 40, .inr (.inl so))), (o2, .inl (cL, 40, .inr (.inl go))), (q1, .inl (cL, 40, .inr (.inl sb))), (q2, .inl (cL, 40, .inr (.inl gb))), (r1, .inl (cL, 40, .inr (.inl bl)))]) [0, 1, 2, 3, 4, 5, 6, 7, 8, 9] rfl
      have hD9 := hD.sub (ws' := [(x, .inr (2, [.long T, .ref t1, .ref o, .ref q, .ref r, .int f1, .int f2])), (t1, .inl (cI, 40, .inl tc)), (o, .inr (1, [.ref o1, .ref o2, .long co])), (q, .inr (1, [.ref q1, .ref q2, .long cb])), (r, .inr (0, [.ref r1])), (o1, .inl (cL, 40, .inr (.inl so))), (o2, .inl (cL, 40, .inr (.inl go))), (q1, .inl (cL, 40, .inr (.inl sb))), (q2, .inl (cL, 40, .inr (.inl gb))), (r1, .inl (cL, 40, .inr (.inl bl)))]) [0, 1, 2, 3, 4, 5, 6, 7, 8, 9] (by decide) rfl
      exact W.zret (v := 0) hx hb hr rfl (fun t9 ht9 hW9 => ⟨⟨_, (), rfl, rfl, by rw [ht9]; exact hP9, by exact hD9⟩, hS.F ht9⟩) hS.2.2 dB_target_26
    · skip
      exact absurd rfl c_4
set_option maxHeartbeats 4000000 in
set_option maxRecDepth 100000 in
theorem c_targetD (l : Launch) (dC : Nat → ClassId) (dI : Nat → Nat → Nat) (x t1 o o1 o2 q q1 q2 r r1 : Nat) (cI cL : ClassId) (T : Int64) (tc : Nat → Int32) (so go : Nat → Int64) (co : Int64) (sb gb : Nat → Int64) (cb : Int64) (bl : Nat → Int64) (f1 f2 : Int32) (k : Nat) (hk : k < 40) (hT9 : bw_m T k = true) (j : Nat) (hj : j < 40) (n : Nat) (hn : tc k = nI n) (hn4 : n = 4) (sz : Nat) : Met l yB_target wsB_target ({ frames := 3, cells := 0, slots := 0, locals := 63 } : Room) (bw_Wr (dC, dI) [(cI, .int), (cL, .long)] [(x, .inr (2, [.long T, .ref t1, .ref o, .ref q, .ref r, .int f1, .int f2])), (t1, .inl (cI, 40, .inl tc)), (o, .inr (1, [.ref o1, .ref o2, .long co])), (q, .inr (1, [.ref q1, .ref q2, .long cb])), (r, .inr (0, [.ref r1])), (o1, .inl (cL, 40, .inr (.inl so))), (o2, .inl (cL, 40, .inr (.inl go))), (q1, .inl (cL, 40, .inr (.inl sb))), (q2, .inl (cL, 40, .inr (.inl gb))), (r1, .inl (cL, 40, .inr (.inl bl)))] sz [.ref x, .int (nI k), .int (nI j)]) (va_Qi (S := Unit) (fun r _ => r = 0) (fun (_ : Unit) t => va_P (dC, dI) vwCl [(x, .inr (2, [.long T, .ref t1, .ref o, .ref q, .ref r, .int f1, .int f2])), (t1, .inl (cI, 40, .inl tc)), (o, .inr (1, [.ref o1, .ref o2, .long co])), (q, .inr (1, [.ref q1, .ref q2, .long cb])), (r, .inr (0, [.ref r1])), (o1, .inl (cL, 40, .inr (.inl so))), (o2, .inl (cL, 40, .inr (.inl go))), (q1, .inl (cL, 40, .inr (.inl sb))), (q2, .inl (cL, 40, .inr (.inl gb))), (r1, .inl (cL, 40, .inr (.inl bl)))] t.heap ∧ va_D (va_A [(x, .inr (2, [.long T, .ref t1, .ref o, .ref q, .ref r, .int f1, .int f2])), (t1, .inl (cI, 40, .inl tc)), (o, .inr (1, [.ref o1, .ref o2, .long co])), (q, .inr (1, [.ref q1, .ref q2, .long cb])), (r, .inr (0, [.ref r1])), (o1, .inl (cL, 40, .inr (.inl so))), (o2, .inl (cL, 40, .inr (.inl go))), (q1, .inl (cL, 40, .inr (.inl sb))), (q2, .inl (cL, 40, .inr (.inl gb))), (r1, .inl (cL, 40, .inr (.inl bl)))] sz) [(x, .inr (2, [.long T, .ref t1, .ref o, .ref q, .ref r, .int f1, .int f2])), (t1, .inl (cI, 40, .inl tc)), (o, .inr (1, [.ref o1, .ref o2, .long co])), (q, .inr (1, [.ref q1, .ref q2, .long cb])), (r, .inr (0, [.ref r1])), (o1, .inl (cL, 40, .inr (.inl so))), (o2, .inl (cL, 40, .inr (.inl go))), (q1, .inl (cL, 40, .inr (.inl sb))), (q2, .inl (cL, 40, .inr (.inl gb))), (r1, .inl (cL, 40, .inr (.inl bl)))]) (va_A [(x, .inr (2, [.long T, .ref t1, .ref o, .ref q, .ref r, .int f1, .int f2])), (t1, .inl (cI, 40, .inl tc)), (o, .inr (1, [.ref o1, .ref o2, .long co])), (q, .inr (1, [.ref q1, .ref q2, .long cb])), (r, .inr (0, [.ref r1])), (o1, .inl (cL, 40, .inr (.inl so))), (o2, .inl (cL, 40, .inr (.inl go))), (q1, .inl (cL, 40, .inr (.inl sb))), (q2, .inl (cL, 40, .inr (.inl gb))), (r1, .inl (cL, 40, .inr (.inl bl)))] sz)) 0 0 (va_A [(x, .inr (2, [.long T, .ref t1, .ref o, .ref q, .ref r, .int f1, .int f2])), (t1, .inl (cI, 40, .inl tc)), (o, .inr (1, [.ref o1, .ref o2, .long co])), (q, .inr (1, [.ref q1, .ref q2, .long cb])), (r, .inr (0, [.ref r1])), (o1, .inl (cL, 40, .inr (.inl so))), (o2, .inl (cL, 40, .inr (.inl go))), (q1, .inl (cL, 40, .inr (.inl sb))), (q2, .inl (cL, 40, .inr (.inl gb))), (r1, .inl (cL, 40, .inr (.inl bl)))] sz) := by
  refine Met.ofW (cc := cB_target) (maxL := 3) (ret := (some .boolean)) (by decide) rfl ?_
  intro p e s m args below meth c s₁ B hml hv
  obtain ⟨rfl, hsz, hP, hK, hN, hD0⟩ := hv
  have hx := B.exec
  have hb := B.bytes
  have hr := B.returns
  have hts := atoms_spec (ws := wsB_target) B.pre
  have hT : ∀ w ∈ bwB, w.before _ s = true := fun w h => hts w (List.mem_cons_of_mem _ h)
  have hown : s.vm.findClass RB = some m.cls := findClass_of_methodNamed B.named
  have hlocks := B.notSynchronized
  subst hsz
  have hD := hD0.self (sz := s.heap.size)
  generalize hAe : va_A [(x, .inr (2, [.long T, .ref t1, .ref o, .ref q, .ref r, .int f1, .int f2])), (t1, .inl (cI, 40, .inl tc)), (o, .inr (1, [.ref o1, .ref o2, .long co])), (q, .inr (1, [.ref q1, .ref q2, .long cb])), (r, .inr (0, [.ref r1])), (o1, .inl (cL, 40, .inr (.inl so))), (o2, .inl (cL, 40, .inr (.inl go))), (q1, .inl (cL, 40, .inr (.inl sb))), (q2, .inl (cL, 40, .inr (.inl gb))), (r1, .inl (cL, 40, .inr (.inl bl)))] s.heap.size = A at hD ⊢
  have hA : ∀ q : Nat, s.heap.size ≤ q → A q := fun q h => by rw [← hAe]; exact Or.inr h
  have hS : va_S A s.heap s.heap [] := va_S.rf
  have hP : va_P (dC, dI) vwCl [(x, .inr (2, [.long T, .ref t1, .ref o, .ref q, .ref r, .int f1, .int f2])), (t1, .inl (cI, 40, .inl tc)), (o, .inr (1, [.ref o1, .ref o2, .long co])), (q, .inr (1, [.ref q1, .ref q2, .long cb])), (r, .inr (0, [.ref r1])), (o1, .inl (cL, 40, .inr (.inl so))), (o2, .inl (cL, 40, .inr (.inl go))), (q1, .inl (cL, 40, .inr (.inl sb))), (q2, .inl (cL, 40, .inr (.inl gb))), (r1, .inl (cL, 40, .inr (.inl bl)))] s.heap := hP
  have hl := lv_entry ([.ref x, .int (nI k), .int (nI j)]) (n := 3) (Nat.le_of_ble_eq_true rfl)
  rw [lg_entry_eq]
  generalize (lg_sl ([.ref x, .int (nI k), .int (nI j)]) ++ List.replicate (3 - (lg_sl ([.ref x, .int (nI k), .int (nI j)])).length) Slot.unset).toArray = ls at hl ⊢
  have hl : lv_has ls 3 [(0, .ref x), (1, .int (nI k)), (2, .int (nI j))] := hl
  refine lv_aload_n hx hb dB_target_0 rfl (lv_at hl 0 rfl) ?_
  refine lv_iload_n hx hb dB_target_1 rfl (lv_at hl 1 rfl) ?_
  have hPc := hP.sub (ws' := [(x, .inr (2, [.long T, .ref t1, .ref o, .ref q, .ref r, .int f1, .int f2]))]) [0] rfl
  have hKc := hK.sub (tys' := []) [] rfl
  refine vp_callSi (W.runV (As := [.int (nI k)]) (rest := []) ⟨hx, hb, hml, hown, hT⟩ (c_isTold1 l dC dI x t1 o q r T f1 f2 k (by omega)) (cwV 1 hT g_B_56 rfl rfl rfl (by decide +kernel) ⟨Nat.le_of_ble_eq_true rfl, Nat.le_of_ble_eq_true rfl⟩) (bw_pV hPc hKc hN (ci := 2) (q0 := 0) rfl rfl) rfl rfl hl.1 rfl (lv_room (Nat.le_of_ble_eq_true rfl)) dB_target_2 ⟨Nat.le_of_ble_eq_true rfl, Nat.le_of_ble_eq_true rfl⟩) (fun r_1 hr_1 => ?_)
  rw [hr_1]; clear hr_1
  refine lv_if_eq (tgt := 25) hx hb dB_target_5 (by decide) (fun c_2 => ?_) (fun c_2 => ?_)
  · skip
    have c_2 := bw_i0.mp c_2
    rw [hT9] at c_2; cases c_2
  · skip
    have c_2 := bw_in0 c_2
    refine lv_iload_n hx hb dB_target_8 rfl (lv_at hl 2 rfl) ?_
    refine vp_callSi (W.runS (As := [.int (nI j)]) (rest := []) ⟨hx, hb, hml, hown, hT⟩ (c_isB1 l j (by omega)) (cwS 1 hT g_B_41 rfl rfl rfl (by decide +kernel) ⟨Nat.le_of_ble_eq_true rfl, Nat.le_of_ble_eq_true rfl⟩) preEq rfl rfl hl.1 rfl (lv_room (Nat.le_of_ble_eq_true rfl)) dB_target_9 ⟨Nat.le_of_ble_eq_true rfl, Nat.le_of_ble_eq_true rfl⟩) (fun r_3 hr_3 => ?_)
    rw [hr_3]; clear hr_3
    refine lv_if_eq (tgt := 25) hx hb dB_target_12 (by decide) (fun c_4 => ?_) (fun c_4 => ?_)
    · skip
      exact absurd c_4 (by decide)
    · skip
      refine lv_aload_n hx hb dB_target_15 rfl (lv_at hl 0 rfl) ?_
      refine va_get (D := (dC, dI)) (ci := 2) (v := .ref t1) (C := RB) (T := TB) (N := 7) hx hb hT inB hown hK hP 0 rfl rfl 1 (by decide) (hT _ hw_65) (fun _ h9 => h9) rfl dB_target_16 ?_
      refine lv_iload_n hx hb dB_target_19 rfl (lv_at hl 1 rfl) ?_
      refine bw_iald hx hb hK hP 1 0 (k := k) rfl rfl (by omega) (by decide) dB_target_20 ?_
      rw [hn]
      refine lv_iconst (v := nI 4) hx hb dB_target_21 (by decide) ?_
      refine lv_icmp_lt (tgt := 27) hx hb dB_target_22 (by decide) (fun c_5 => ?_) (fun c_5 => ?_)
      · skip
        have c_5 : n < 4 := (nI_ltI (a := n) (b := 4) (by omega) (by omega)).mp c_5
        exact absurd c_5 (by omega)
      · skip
        have c_5 : ¬ n < 4 := fun z => c_5 ((nI_ltI (a := n) (b := 4) (by omega) (by omega)).mpr z)
        refine lv_iconst (v := 0) hx hb dB_target_25 (by decide) ?_
        have hP9 := hP.sub (ws' := [(x, .inr (2, [.long T, .ref t1, .ref o, .ref q, .ref r, .int f1, .int f2])), (t1, .inl (cI, 40, .inl tc)), (o, .inr (1, [.ref o1, .ref o2, .long co])), (q, .inr (1, [.ref q1, .ref q2, .long cb])), (r, .inr (0, [.ref r1])), (o1, .inl (cL, 40, .inr (.inl so))), (o2, .inl (cL, 40, .inr (.inl go))), (q1, .inl (cL, 40, .inr (.inl sb))), (q2, .inl (cL, 40, .inr (.inl gb))), (r1, .inl (cL, 40, .inr (.inl bl)))]) [0, 1, 2, 3, 4, 5, 6, 7, 8, 9] rfl
        have hD9 := hD.sub (ws' := [(x, .inr (2, [.long T, .ref t1, .ref o, .ref q, .ref r, .int f1, .int f2])), (t1, .inl (cI, 40, .inl tc)), (o, .inr (1, [.ref o1, .ref o2, .long co])), (q, .inr (1, [.ref q1, .ref q2, .long cb])), (r, .inr (0, [.ref r1])), (o1, .inl (cL, 40, .inr (.inl so))), (o2, .inl (cL, 40, .inr (.inl go))), (q1, .inl (cL, 40, .inr (.inl sb))), (q2, .inl (cL, 40, .inr (.inl gb))), (r1, .inl (cL, 40, .inr (.inl bl)))]) [0, 1, 2, 3, 4, 5, 6, 7, 8, 9] (by decide) rfl
        exact W.zret (v := 0) hx hb hr rfl (fun t9 ht9 hW9 => ⟨⟨_, (), rfl, rfl, by rw [ht9]; exact hP9, by exact hD9⟩, hS.F ht9⟩) hS.2.2 dB_target_26
set_option maxHeartbeats 4000000 in
set_option maxRecDepth 100000 in
theorem c_targetE (l : Launch) (dC : Nat → ClassId) (dI : Nat → Nat → Nat) (x t1 o o1 o2 q q1 q2 r r1 : Nat) (cI cL : ClassId) (T : Int64) (tc : Nat → Int32) (so go : Nat → Int64) (co : Int64) (sb gb : Nat → Int64) (cb : Int64) (bl : Nat → Int64) (f1 f2 : Int32) (k : Nat) (hk : k < 40) (hT9 : bw_m T k = true) (j : Nat) (hj : j < 40) (n : Nat) (hn : tc k = nI n) (hn4 : n < 4) (sz : Nat) : Met l yB_target wsB_target ({ frames := 3, cells := 0, slots := 0, locals := 63 } : Room) (bw_Wr (dC, dI) [(cI, .int), (cL, .long)] [(x, .inr (2, [.long T, .ref t1, .ref o, .ref q, .ref r, .int f1, .int f2])), (t1, .inl (cI, 40, .inl tc)), (o, .inr (1, [.ref o1, .ref o2, .long co])), (q, .inr (1, [.ref q1, .ref q2, .long cb])), (r, .inr (0, [.ref r1])), (o1, .inl (cL, 40, .inr (.inl so))), (o2, .inl (cL, 40, .inr (.inl go))), (q1, .inl (cL, 40, .inr (.inl sb))), (q2, .inl (cL, 40, .inr (.inl gb))), (r1, .inl (cL, 40, .inr (.inl bl)))] sz [.ref x, .int (nI k), .int (nI j)]) (va_Qi (S := Unit) (fun r _ => r = 1) (fun (_ : Unit) t => va_P (dC, dI) vwCl [(x, .inr (2, [.long T, .ref t1, .ref o, .ref q, .ref r, .int 1, .int 1])), (t1, .inl (cI, 40, .inl (upd tc k (nI (n + 1))))), (o, .inr (1, [.ref o1, .ref o2, .long co])), (q, .inr (1, [.ref q1, .ref q2, .long cb])), (r, .inr (0, [.ref r1])), (o1, .inl (cL, 40, .inr (.inl (vp_updL so k (so k ||| bw_b j))))), (o2, .inl (cL, 40, .inr (.inl go))), (q1, .inl (cL, 40, .inr (.inl (vp_updL sb j (sb j ||| bw_b k))))), (q2, .inl (cL, 40, .inr (.inl gb))), (r1, .inl (cL, 40, .inr (.inl bl)))] t.heap ∧ va_D (va_A [(x, .inr (2, [.long T, .ref t1, .ref o, .ref q, .ref r, .int f1, .int f2])), (t1, .inl (cI, 40, .inl tc)), (o, .inr (1, [.ref o1, .ref o2, .long co])), (q, .inr (1, [.ref q1, .ref q2, .long cb])), (r, .inr (0, [.ref r1])), (o1, .inl (cL, 40, .inr (.inl so))), (o2, .inl (cL, 40, .inr (.inl go))), (q1, .inl (cL, 40, .inr (.inl sb))), (q2, .inl (cL, 40, .inr (.inl gb))), (r1, .inl (cL, 40, .inr (.inl bl)))] sz) [(x, .inr (2, [.long T, .ref t1, .ref o, .ref q, .ref r, .int 1, .int 1])), (t1, .inl (cI, 40, .inl (upd tc k (nI (n + 1))))), (o, .inr (1, [.ref o1, .ref o2, .long co])), (q, .inr (1, [.ref q1, .ref q2, .long cb])), (r, .inr (0, [.ref r1])), (o1, .inl (cL, 40, .inr (.inl (vp_updL so k (so k ||| bw_b j))))), (o2, .inl (cL, 40, .inr (.inl go))), (q1, .inl (cL, 40, .inr (.inl (vp_updL sb j (sb j ||| bw_b k))))), (q2, .inl (cL, 40, .inr (.inl gb))), (r1, .inl (cL, 40, .inr (.inl bl)))]) (va_A [(x, .inr (2, [.long T, .ref t1, .ref o, .ref q, .ref r, .int f1, .int f2])), (t1, .inl (cI, 40, .inl tc)), (o, .inr (1, [.ref o1, .ref o2, .long co])), (q, .inr (1, [.ref q1, .ref q2, .long cb])), (r, .inr (0, [.ref r1])), (o1, .inl (cL, 40, .inr (.inl so))), (o2, .inl (cL, 40, .inr (.inl go))), (q1, .inl (cL, 40, .inr (.inl sb))), (q2, .inl (cL, 40, .inr (.inl gb))), (r1, .inl (cL, 40, .inr (.inl bl)))] sz)) 0 0 (va_A [(x, .inr (2, [.long T, .ref t1, .ref o, .ref q, .ref r, .int f1, .int f2])), (t1, .inl (cI, 40, .inl tc)), (o, .inr (1, [.ref o1, .ref o2, .long co])), (q, .inr (1, [.ref q1, .ref q2, .long cb])), (r, .inr (0, [.ref r1])), (o1, .inl (cL, 40, .inr (.inl so))), (o2, .inl (cL, 40, .inr (.inl go))), (q1, .inl (cL, 40, .inr (.inl sb))), (q2, .inl (cL, 40, .inr (.inl gb))), (r1, .inl (cL, 40, .inr (.inl bl)))] sz) := by
  refine Met.ofW (cc := cB_target) (maxL := 3) (ret := (some .boolean)) (by decide) rfl ?_
  intro p e s m args below meth c s₁ B hml hv
  obtain ⟨rfl, hsz, hP, hK, hN, hD0⟩ := hv
  have hx := B.exec
  have hb := B.bytes
  have hr := B.returns
  have hts := atoms_spec (ws := wsB_target) B.pre
  have hT : ∀ w ∈ bwB, w.before _ s = true := fun w h => hts w (List.mem_cons_of_mem _ h)
  have hown : s.vm.findClass RB = some m.cls := findClass_of_methodNamed B.named
  have hlocks := B.notSynchronized
  subst hsz
  have hD := hD0.self (sz := s.heap.size)
  generalize hAe : va_A [(x, .inr (2, [.long T, .ref t1, .ref o, .ref q, .ref r, .int f1, .int f2])), (t1, .inl (cI, 40, .inl tc)), (o, .inr (1, [.ref o1, .ref o2, .long co])), (q, .inr (1, [.ref q1, .ref q2, .long cb])), (r, .inr (0, [.ref r1])), (o1, .inl (cL, 40, .inr (.inl so))), (o2, .inl (cL, 40, .inr (.inl go))), (q1, .inl (cL, 40, .inr (.inl sb))), (q2, .inl (cL, 40, .inr (.inl gb))), (r1, .inl (cL, 40, .inr (.inl bl)))] s.heap.size = A at hD ⊢
  have hA : ∀ q : Nat, s.heap.size ≤ q → A q := fun q h => by rw [← hAe]; exact Or.inr h
  have hS : va_S A s.heap s.heap [] := va_S.rf
  have hP : va_P (dC, dI) vwCl [(x, .inr (2, [.long T, .ref t1, .ref o, .ref q, .ref r, .int f1, .int f2])), (t1, .inl (cI, 40, .inl tc)), (o, .inr (1, [.ref o1, .ref o2, .long co])), (q, .inr (1, [.ref q1, .ref q2, .long cb])), (r, .inr (0, [.ref r1])), (o1, .inl (cL, 40, .inr (.inl so))), (o2, .inl (cL, 40, .inr (.inl go))), (q1, .inl (cL, 40, .inr (.inl sb))), (q2, .inl (cL, 40, .inr (.inl gb))), (r1, .inl (cL, 40, .inr (.inl bl)))] s.heap := hP
  have hl := lv_entry ([.ref x, .int (nI k), .int (nI j)]) (n := 3) (Nat.le_of_ble_eq_true rfl)
  rw [lg_entry_eq]
  generalize (lg_sl ([.ref x, .int (nI k), .int (nI j)]) ++ List.replicate (3 - (lg_sl ([.ref x, .int (nI k), .int (nI j)])).length) Slot.unset).toArray = ls at hl ⊢
  have hl : lv_has ls 3 [(0, .ref x), (1, .int (nI k)), (2, .int (nI j))] := hl
  refine lv_aload_n hx hb dB_target_0 rfl (lv_at hl 0 rfl) ?_
  refine lv_iload_n hx hb dB_target_1 rfl (lv_at hl 1 rfl) ?_
  have hPc := hP.sub (ws' := [(x, .inr (2, [.long T, .ref t1, .ref o, .ref q, .ref r, .int f1, .int f2]))]) [0] rfl
  have hKc := hK.sub (tys' := []) [] rfl
  refine vp_callSi (W.runV (As := [.int (nI k)]) (rest := []) ⟨hx, hb, hml, hown, hT⟩ (c_isTold1 l dC dI x t1 o q r T f1 f2 k (by omega)) (cwV 1 hT g_B_56 rfl rfl rfl (by decide +kernel) ⟨Nat.le_of_ble_eq_true rfl, Nat.le_of_ble_eq_true rfl⟩) (bw_pV hPc hKc hN (ci := 2) (q0 := 0) rfl rfl) rfl rfl hl.1 rfl (lv_room (Nat.le_of_ble_eq_true rfl)) dB_target_2 ⟨Nat.le_of_ble_eq_true rfl, Nat.le_of_ble_eq_true rfl⟩) (fun r_1 hr_1 => ?_)
  rw [hr_1]; clear hr_1
  refine lv_if_eq (tgt := 25) hx hb dB_target_5 (by decide) (fun c_2 => ?_) (fun c_2 => ?_)
  · skip
    have c_2 := bw_i0.mp c_2
    rw [hT9] at c_2; cases c_2
  · skip
    have c_2 := bw_in0 c_2
    refine lv_iload_n hx hb dB_target_8 rfl (lv_at hl 2 rfl) ?_
    refine vp_callSi (W.runS (As := [.int (nI j)]) (rest := []) ⟨hx, hb, hml, hown, hT⟩ (c_isB1 l j (by omega)) (cwS 1 hT g_B_41 rfl rfl rfl (by decide +kernel) ⟨Nat.le_of_ble_eq_true rfl, Nat.le_of_ble_eq_true rfl⟩) preEq rfl rfl hl.1 rfl (lv_room (Nat.le_of_ble_eq_true rfl)) dB_target_9 ⟨Nat.le_of_ble_eq_true rfl, Nat.le_of_ble_eq_true rfl⟩) (fun r_3 hr_3 => ?_)
    rw [hr_3]; clear hr_3
    refine lv_if_eq (tgt := 25) hx hb dB_target_12 (by decide) (fun c_4 => ?_) (fun c_4 => ?_)
    · skip
      exact absurd c_4 (by decide)
    · skip
      refine lv_aload_n hx hb dB_target_15 rfl (lv_at hl 0 rfl) ?_
      refine va_get (D := (dC, dI)) (ci := 2) (v := .ref t1) (C := RB) (T := TB) (N := 7) hx hb hT inB hown hK hP 0 rfl rfl 1 (by decide) (hT _ hw_65) (fun _ h9 => h9) rfl dB_target_16 ?_
      refine lv_iload_n hx hb dB_target_19 rfl (lv_at hl 1 rfl) ?_
      refine bw_iald hx hb hK hP 1 0 (k := k) rfl rfl (by omega) (by decide) dB_target_20 ?_
      rw [hn]
      refine lv_iconst (v := nI 4) hx hb dB_target_21 (by decide) ?_
      refine lv_icmp_lt (tgt := 27) hx hb dB_target_22 (by decide) (fun c_5 => ?_) (fun c_5 => ?_)
      · skip
        have c_5 : n < 4 := (nI_ltI (a := n) (b := 4) (by omega) (by omega)).mp c_5
        refine lv_aload_n hx hb dB_target_27 rfl (lv_at hl 0 rfl) ?_
        refine va_get (D := (dC, dI)) (ci := 2) (v := .ref t1) (C := RB) (T := TB) (N := 7) hx hb hT inB hown hK hP 0 rfl rfl 1 (by decide) (hT _ hw_65) (fun _ h9 => h9) rfl dB_target_28 ?_
        refine lv_iload_n hx hb dB_target_31 rfl (lv_at hl 1 rfl) ?_
        refine lv_dup2_11 hx hb dB_target_32 rfl rfl ?_
        refine bw_iald hx hb hK hP 1 0 (k := k) rfl rfl (by omega) (by decide) dB_target_33 ?_
        rw [hn]
        refine lv_iconst (v := 1) hx hb dB_target_34 (by decide) ?_
        refine lv_iadd hx hb dB_target_35 ?_
        rw [nI_1 n]
        refine bw_iast hx hb hK hP hD hS 1 0 (k := k) rfl rfl (by omega) (by decide) dB_target_36 (fun H locs hP hD hS => ?_)
        have hP : va_P (dC, dI) vwCl [(x, .inr (2, [.long T, .ref t1, .ref o, .ref q, .ref r, .int f1, .int f2])), (t1, .inl (cI, 40, .inl (upd tc k (nI (n + 1))))), (o, .inr (1, [.ref o1, .ref o2, .long co])), (q, .inr (1, [.ref q1, .ref q2, .long cb])), (r, .inr (0, [.ref r1])), (o1, .inl (cL, 40, .inr (.inl so))), (o2, .inl (cL, 40, .inr (.inl go))), (q1, .inl (cL, 40, .inr (.inl sb))), (q2, .inl (cL, 40, .inr (.inl gb))), (r1, .inl (cL, 40, .inr (.inl bl)))] H := hP
        have hD : va_D A [(x, .inr (2, [.long T, .ref t1, .ref o, .ref q, .ref r, .int f1, .int f2])), (t1, .inl (cI, 40, .inl (upd tc k (nI (n + 1))))), (o, .inr (1, [.ref o1, .ref o2, .long co])), (q, .inr (1, [.ref q1, .ref q2, .long cb])), (r, .inr (0, [.ref r1])), (o1, .inl (cL, 40, .inr (.inl so))), (o2, .inl (cL, 40, .inr (.inl go))), (q1, .inl (cL, 40, .inr (.inl sb))), (q2, .inl (cL, 40, .inr (.inl gb))), (r1, .inl (cL, 40, .inr (.inl bl)))] := hD
        refine lv_aload_n hx hb dB_target_37 rfl (lv_at hl 0 rfl) ?_
        refine va_get (D := (dC, dI)) (ci := 2) (v := .ref o) (C := RB) (T := TB) (N := 7) hx hb hT inB hown hK hP 0 rfl rfl 2 (by decide) (hT _ hw_66) (fun _ h9 => h9) rfl dB_target_38 ?_
        refine lv_iload_n hx hb dB_target_41 rfl (lv_at hl 1 rfl) ?_
        refine lv_iload_n hx hb dB_target_42 rfl (lv_at hl 2 rfl) ?_
        have hPc := hP.sub (ws' := [(o, .inr (1, [.ref o1, .ref o2, .long co])), (o1, .inl (cL, 40, .inr (.inl so))), (o2, .inl (cL, 40, .inr (.inl go)))]) [2, 5, 6] rfl
        have hDc := hD.sub (ws' := [(o, .inr (1, [.ref o1, .ref o2, .long co])), (o1, .inl (cL, 40, .inr (.inl so))), (o2, .inl (cL, 40, .inr (.inl go)))]) [2, 5, 6] (by decide) rfl
        have hKc := hK.sub (tys' := [(cL, .long)]) [1] rfl
        have hFc := va_free (wc := [(o, .inr (1, [.ref o1, .ref o2, .long co])), (o1, .inl (cL, 40, .inr (.inl so))), (o2, .inl (cL, 40, .inr (.inl go)))]) hD hS hA [2, 5, 6] rfl
        refine va_callv (va_runV (As := [.int (nI k), .int (nI j)]) (rest := []) ⟨hx, hb, hml, hown, hT⟩ (c_addStep l dC dI o o1 o2 cL so go co k j (by omega) H.size) (cwV 2 hT g_B_59 rfl rfl rfl (by decide +kernel) ⟨Nat.le_of_ble_eq_true rfl, Nat.le_of_ble_eq_true rfl⟩) (bw_qV hPc hKc hN hDc (ci := 1) (q0 := 0) rfl rfl) rfl rfl hl.1 rfl (lv_room (Nat.le_of_ble_eq_true rfl)) dB_target_43 ⟨Nat.le_of_ble_eq_true rfl, Nat.le_of_ble_eq_true rfl⟩) hS (fun q _ h => hFc q h) hFc (fun u_6 t_6 H1 locs ht hvm hw_6 hB hz1 hk1 hS => ?_)
        obtain ⟨hP1, hD1⟩ := hB
        rw [ht] at hP1
        obtain ⟨hP, hD⟩ := va_join (wr := [(x, .inr (2, [.long T, .ref t1, .ref o, .ref q, .ref r, .int f1, .int f2])), (t1, .inl (cI, 40, .inl (upd tc k (nI (n + 1))))), (q, .inr (1, [.ref q1, .ref q2, .long cb])), (r, .inr (0, [.ref r1])), (q1, .inl (cL, 40, .inr (.inl sb))), (q2, .inl (cL, 40, .inr (.inl gb))), (r1, .inl (cL, 40, .inr (.inl bl)))]) (w1 := [(o, .inr (1, [.ref o1, .ref o2, .long co])), (o1, .inl (cL, 40, .inr (.inl (vp_updL so k (so k ||| bw_b j))))), (o2, .inl (cL, 40, .inr (.inl go)))]) hP hD [2, 5, 6] [0, 1, 3, 4, 7, 8, 9] rfl rfl (by decide) (by decide) hk1 hFc hP1 hD1
        generalize H1 = H at hP hS ⊢
        have hP : va_P (dC, dI) vwCl [(x, .inr (2, [.long T, .ref t1, .ref o, .ref q, .ref r, .int f1, .int f2])), (t1, .inl (cI, 40, .inl (upd tc k (nI (n + 1))))), (q, .inr (1, [.ref q1, .ref q2, .long cb])), (r, .inr (0, [.ref r1])), (q1, .inl (cL, 40, .inr (.inl sb))), (q2, .inl (cL, 40, .inr (.inl gb))), (r1, .inl (cL, 40, .inr (.inl bl))), (o, .inr (1, [.ref o1, .ref o2, .long co])), (o1, .inl (cL, 40, .inr (.inl (vp_updL so k (so k ||| bw_b j))))), (o2, .inl (cL, 40, .inr (.inl go)))] H := hP
        have hD : va_D A [(x, .inr (2, [.long T, .ref t1, .ref o, .ref q, .ref r, .int f1, .int f2])), (t1, .inl (cI, 40, .inl (upd tc k (nI (n + 1))))), (q, .inr (1, [.ref q1, .ref q2, .long cb])), (r, .inr (0, [.ref r1])), (q1, .inl (cL, 40, .inr (.inl sb))), (q2, .inl (cL, 40, .inr (.inl gb))), (r1, .inl (cL, 40, .inr (.inl bl))), (o, .inr (1, [.ref o1, .ref o2, .long co])), (o1, .inl (cL, 40, .inr (.inl (vp_updL so k (so k ||| bw_b j))))), (o2, .inl (cL, 40, .inr (.inl go)))] := hD
        refine lv_aload_n hx hb dB_target_46 rfl (lv_at hl 0 rfl) ?_
        refine va_get (D := (dC, dI)) (ci := 2) (v := .ref q) (C := RB) (T := TB) (N := 7) hx hb hT inB hown hK hP 0 rfl rfl 3 (by decide) (hT _ hw_67) (fun _ h9 => h9) rfl dB_target_47 ?_
        refine lv_iload_n hx hb dB_target_50 rfl (lv_at hl 2 rfl) ?_
        refine lv_iload_n hx hb dB_target_51 rfl (lv_at hl 1 rfl) ?_
        have hPc := hP.sub (ws' := [(q, .inr (1, [.ref q1, .ref q2, .long cb])), (q1, .inl (cL, 40, .inr (.inl sb))), (q2, .inl (cL, 40, .inr (.inl gb)))]) [2, 4, 5] rfl
        have hDc := hD.sub (ws' := [(q, .inr (1, [.ref q1, .ref q2, .long cb])), (q1, .inl (cL, 40, .inr (.inl sb))), (q2, .inl (cL, 40, .inr (.inl gb)))]) [2, 4, 5] (by decide) rfl
        have hKc := hK.sub (tys' := [(cL, .long)]) [1] rfl
        have hFc := va_free (wc := [(q, .inr (1, [.ref q1, .ref q2, .long cb])), (q1, .inl (cL, 40, .inr (.inl sb))), (q2, .inl (cL, 40, .inr (.inl gb)))]) hD hS hA [2, 4, 5] rfl
        refine va_callv (va_runV (As := [.int (nI j), .int (nI k)]) (rest := []) ⟨hx, hb, hml, hown, hT⟩ (c_addStep l dC dI q q1 q2 cL sb gb cb j k (by omega) H.size) (cwV 2 hT g_B_59 rfl rfl rfl (by decide +kernel) ⟨Nat.le_of_ble_eq_true rfl, Nat.le_of_ble_eq_true rfl⟩) (bw_qV hPc hKc hN hDc (ci := 1) (q0 := 0) rfl rfl) rfl rfl hl.1 rfl (lv_room (Nat.le_of_ble_eq_true rfl)) dB_target_52 ⟨Nat.le_of_ble_eq_true rfl, Nat.le_of_ble_eq_true rfl⟩) hS (fun q _ h => hFc q h) hFc (fun u_7 t_7 H1 locs ht hvm hw_7 hB hz1 hk1 hS => ?_)
        obtain ⟨hP1, hD1⟩ := hB
        rw [ht] at hP1
        obtain ⟨hP, hD⟩ := va_join (wr := [(x, .inr (2, [.long T, .ref t1, .ref o, .ref q, .ref r, .int f1, .int f2])), (t1, .inl (cI, 40, .inl (upd tc k (nI (n + 1))))), (r, .inr (0, [.ref r1])), (r1, .inl (cL, 40, .inr (.inl bl))), (o, .inr (1, [.ref o1, .ref o2, .long co])), (o1, .inl (cL, 40, .inr (.inl (vp_updL so k (so k ||| bw_b j))))), (o2, .inl (cL, 40, .inr (.inl go)))]) (w1 := [(q, .inr (1, [.ref q1, .ref q2, .long cb])), (q1, .inl (cL, 40, .inr (.inl (vp_updL sb j (sb j ||| bw_b k))))), (q2, .inl (cL, 40, .inr (.inl gb)))]) hP hD [2, 4, 5] [0, 1, 3, 6, 7, 8, 9] rfl rfl (by decide) (by decide) hk1 hFc hP1 hD1
        generalize H1 = H at hP hS ⊢
        have hP : va_P (dC, dI) vwCl [(x, .inr (2, [.long T, .ref t1, .ref o, .ref q, .ref r, .int f1, .int f2])), (t1, .inl (cI, 40, .inl (upd tc k (nI (n + 1))))), (r, .inr (0, [.ref r1])), (r1, .inl (cL, 40, .inr (.inl bl))), (o, .inr (1, [.ref o1, .ref o2, .long co])), (o1, .inl (cL, 40, .inr (.inl (vp_updL so k (so k ||| bw_b j))))), (o2, .inl (cL, 40, .inr (.inl go))), (q, .inr (1, [.ref q1, .ref q2, .long cb])), (q1, .inl (cL, 40, .inr (.inl (vp_updL sb j (sb j ||| bw_b k))))), (q2, .inl (cL, 40, .inr (.inl gb)))] H := hP
        have hD : va_D A [(x, .inr (2, [.long T, .ref t1, .ref o, .ref q, .ref r, .int f1, .int f2])), (t1, .inl (cI, 40, .inl (upd tc k (nI (n + 1))))), (r, .inr (0, [.ref r1])), (r1, .inl (cL, 40, .inr (.inl bl))), (o, .inr (1, [.ref o1, .ref o2, .long co])), (o1, .inl (cL, 40, .inr (.inl (vp_updL so k (so k ||| bw_b j))))), (o2, .inl (cL, 40, .inr (.inl go))), (q, .inr (1, [.ref q1, .ref q2, .long cb])), (q1, .inl (cL, 40, .inr (.inl (vp_updL sb j (sb j ||| bw_b k))))), (q2, .inl (cL, 40, .inr (.inl gb)))] := hD
        refine lv_aload_n hx hb dB_target_55 rfl (lv_at hl 0 rfl) ?_
        have hPc := hP.sub (ws' := [(x, .inr (2, [.long T, .ref t1, .ref o, .ref q, .ref r, .int f1, .int f2]))]) [0] rfl
        have hDc := hD.sub (ws' := [(x, .inr (2, [.long T, .ref t1, .ref o, .ref q, .ref r, .int f1, .int f2]))]) [0] (by decide) rfl
        have hKc := hK.sub (tys' := []) [] rfl
        have hFc := va_free (wc := [(x, .inr (2, [.long T, .ref t1, .ref o, .ref q, .ref r, .int f1, .int f2]))]) hD hS hA [0] rfl
        refine va_callv (va_runV (As := []) (rest := []) ⟨hx, hb, hml, hown, hT⟩ (c_forget l dC dI x t1 o q r T f1 f2 H.size) (cwV 0 hT g_B_53 rfl rfl rfl (by decide +kernel) ⟨Nat.le_of_ble_eq_true rfl, Nat.le_of_ble_eq_true rfl⟩) (bw_qV hPc hKc hN hDc (ci := 2) (q0 := 0) rfl rfl) rfl rfl hl.1 rfl (lv_room (Nat.le_of_ble_eq_true rfl)) dB_target_56 ⟨Nat.le_of_ble_eq_true rfl, Nat.le_of_ble_eq_true rfl⟩) hS (fun q _ h => hFc q h) hFc (fun u_8 t_8 H1 locs ht hvm hw_8 hB hz1 hk1 hS => ?_)
        obtain ⟨hP1, hD1⟩ := hB
        rw [ht] at hP1
        obtain ⟨hP, hD⟩ := va_join (wr := [(t1, .inl (cI, 40, .inl (upd tc k (nI (n + 1))))), (r, .inr (0, [.ref r1])), (r1, .inl (cL, 40, .inr (.inl bl))), (o, .inr (1, [.ref o1, .ref o2, .long co])), (o1, .inl (cL, 40, .inr (.inl (vp_updL so k (so k ||| bw_b j))))), (o2, .inl (cL, 40, .inr (.inl go))), (q, .inr (1, [.ref q1, .ref q2, .long cb])), (q1, .inl (cL, 40, .inr (.inl (vp_updL sb j (sb j ||| bw_b k))))), (q2, .inl (cL, 40, .inr (.inl gb)))]) (w1 := [(x, .inr (2, [.long T, .ref t1, .ref o, .ref q, .ref r, .int 1, .int 1]))]) hP hD [0] [1, 2, 3, 4, 5, 6, 7, 8, 9] rfl rfl (by decide) (by decide) hk1 hFc hP1 hD1
        generalize H1 = H at hP hS ⊢
        have hP : va_P (dC, dI) vwCl [(t1, .inl (cI, 40, .inl (upd tc k (nI (n + 1))))), (r, .inr (0, [.ref r1])), (r1, .inl (cL, 40, .inr (.inl bl))), (o, .inr (1, [.ref o1, .ref o2, .long co])), (o1, .inl (cL, 40, .inr (.inl (vp_updL so k (so k ||| bw_b j))))), (o2, .inl (cL, 40, .inr (.inl go))), (q, .inr (1, [.ref q1, .ref q2, .long cb])), (q1, .inl (cL, 40, .inr (.inl (vp_updL sb j (sb j ||| bw_b k))))), (q2, .inl (cL, 40, .inr (.inl gb))), (x, .inr (2, [.long T, .ref t1, .ref o, .ref q, .ref r, .int 1, .int 1]))] H := hP
        have hD : va_D A [(t1, .inl (cI, 40, .inl (upd tc k (nI (n + 1))))), (r, .inr (0, [.ref r1])), (r1, .inl (cL, 40, .inr (.inl bl))), (o, .inr (1, [.ref o1, .ref o2, .long co])), (o1, .inl (cL, 40, .inr (.inl (vp_updL so k (so k ||| bw_b j))))), (o2, .inl (cL, 40, .inr (.inl go))), (q, .inr (1, [.ref q1, .ref q2, .long cb])), (q1, .inl (cL, 40, .inr (.inl (vp_updL sb j (sb j ||| bw_b k))))), (q2, .inl (cL, 40, .inr (.inl gb))), (x, .inr (2, [.long T, .ref t1, .ref o, .ref q, .ref r, .int 1, .int 1]))] := hD
        refine lv_iconst (v := 1) hx hb dB_target_59 (by decide) ?_
        have hP9 := hP.sub (ws' := [(x, .inr (2, [.long T, .ref t1, .ref o, .ref q, .ref r, .int 1, .int 1])), (t1, .inl (cI, 40, .inl (upd tc k (nI (n + 1))))), (o, .inr (1, [.ref o1, .ref o2, .long co])), (q, .inr (1, [.ref q1, .ref q2, .long cb])), (r, .inr (0, [.ref r1])), (o1, .inl (cL, 40, .inr (.inl (vp_updL so k (so k ||| bw_b j))))), (o2, .inl (cL, 40, .inr (.inl go))), (q1, .inl (cL, 40, .inr (.inl (vp_updL sb j (sb j ||| bw_b k))))), (q2, .inl (cL, 40, .inr (.inl gb))), (r1, .inl (cL, 40, .inr (.inl bl)))]) [9, 0, 3, 6, 1, 4, 5, 7, 8, 2] rfl
        have hD9 := hD.sub (ws' := [(x, .inr (2, [.long T, .ref t1, .ref o, .ref q, .ref r, .int 1, .int 1])), (t1, .inl (cI, 40, .inl (upd tc k (nI (n + 1))))), (o, .inr (1, [.ref o1, .ref o2, .long co])), (q, .inr (1, [.ref q1, .ref q2, .long cb])), (r, .inr (0, [.ref r1])), (o1, .inl (cL, 40, .inr (.inl (vp_updL so k (so k ||| bw_b j))))), (o2, .inl (cL, 40, .inr (.inl go))), (q1, .inl (cL, 40, .inr (.inl (vp_updL sb j (sb j ||| bw_b k))))), (q2, .inl (cL, 40, .inr (.inl gb))), (r1, .inl (cL, 40, .inr (.inl bl)))]) [9, 0, 3, 6, 1, 4, 5, 7, 8, 2] (by decide) rfl
        exact W.zret (v := 1) hx hb hr rfl (fun t9 ht9 hW9 => ⟨⟨_, (), rfl, rfl, by rw [ht9]; exact hP9, by exact hD9⟩, hS.F ht9⟩) hS.2.2 dB_target_60
      · skip
        have c_5 : ¬ n < 4 := fun z => c_5 ((nI_ltI (a := n) (b := 4) (by omega) (by omega)).mpr z)
        exact absurd c_5 (by omega)
set_option maxHeartbeats 4000000 in
set_option maxRecDepth 100000 in
theorem c_drop0 (l : Launch) (dC : Nat → ClassId) (dI : Nat → Nat → Nat) (x t1 o o1 o2 q q1 q2 r r1 : Nat) (cI cL : ClassId) (T : Int64) (tc : Nat → Int32) (so go : Nat → Int64) (co : Int64) (sb gb : Nat → Int64) (cb : Int64) (bl : Nat → Int64) (f1 f2 : Int32) (b : Int32) (hb9 : ∀ k, k < 40 → ¬ b = nI k) (sz : Nat) : Met l yB_drop wsB_drop ({ frames := 2, cells := 0, slots := 0, locals := 41 } : Room) (bw_Wr (dC, dI) [(cI, .int), (cL, .long)] [(x, .inr (2, [.long T, .ref t1, .ref o, .ref q, .ref r, .int f1, .int f2])), (t1, .inl (cI, 40, .inl tc)), (o, .inr (1, [.ref o1, .ref o2, .long co])), (q, .inr (1, [.ref q1, .ref q2, .long cb])), (r, .inr (0, [.ref r1])), (o1, .inl (cL, 40, .inr (.inl so))), (o2, .inl (cL, 40, .inr (.inl go))), (q1, .inl (cL, 40, .inr (.inl sb))), (q2, .inl (cL, 40, .inr (.inl gb))), (r1, .inl (cL, 40, .inr (.inl bl)))] sz [.ref x, .int b]) (va_Qi (S := Unit) (fun r _ => r = 0) (fun (_ : Unit) t => va_P (dC, dI) vwCl [(x, .inr (2, [.long T, .ref t1, .ref o, .ref q, .ref r, .int f1, .int f2])), (t1, .inl (cI, 40, .inl tc)), (o, .inr (1, [.ref o1, .ref o2, .long co])), (q, .inr (1, [.ref q1, .ref q2, .long cb])), (r, .inr (0, [.ref r1])), (o1, .inl (cL, 40, .inr (.inl so))), (o2, .inl (cL, 40, .inr (.inl go))), (q1, .inl (cL, 40, .inr (.inl sb))), (q2, .inl (cL, 40, .inr (.inl gb))), (r1, .inl (cL, 40, .inr (.inl bl)))] t.heap ∧ va_D (va_A [(x, .inr (2, [.long T, .ref t1, .ref o, .ref q, .ref r, .int f1, .int f2])), (t1, .inl (cI, 40, .inl tc)), (o, .inr (1, [.ref o1, .ref o2, .long co])), (q, .inr (1, [.ref q1, .ref q2, .long cb])), (r, .inr (0, [.ref r1])), (o1, .inl (cL, 40, .inr (.inl so))), (o2, .inl (cL, 40, .inr (.inl go))), (q1, .inl (cL, 40, .inr (.inl sb))), (q2, .inl (cL, 40, .inr (.inl gb))), (r1, .inl (cL, 40, .inr (.inl bl)))] sz) [(x, .inr (2, [.long T, .ref t1, .ref o, .ref q, .ref r, .int f1, .int f2])), (t1, .inl (cI, 40, .inl tc)), (o, .inr (1, [.ref o1, .ref o2, .long co])), (q, .inr (1, [.ref q1, .ref q2, .long cb])), (r, .inr (0, [.ref r1])), (o1, .inl (cL, 40, .inr (.inl so))), (o2, .inl (cL, 40, .inr (.inl go))), (q1, .inl (cL, 40, .inr (.inl sb))), (q2, .inl (cL, 40, .inr (.inl gb))), (r1, .inl (cL, 40, .inr (.inl bl)))]) (va_A [(x, .inr (2, [.long T, .ref t1, .ref o, .ref q, .ref r, .int f1, .int f2])), (t1, .inl (cI, 40, .inl tc)), (o, .inr (1, [.ref o1, .ref o2, .long co])), (q, .inr (1, [.ref q1, .ref q2, .long cb])), (r, .inr (0, [.ref r1])), (o1, .inl (cL, 40, .inr (.inl so))), (o2, .inl (cL, 40, .inr (.inl go))), (q1, .inl (cL, 40, .inr (.inl sb))), (q2, .inl (cL, 40, .inr (.inl gb))), (r1, .inl (cL, 40, .inr (.inl bl)))] sz)) 0 0 (va_A [(x, .inr (2, [.long T, .ref t1, .ref o, .ref q, .ref r, .int f1, .int f2])), (t1, .inl (cI, 40, .inl tc)), (o, .inr (1, [.ref o1, .ref o2, .long co])), (q, .inr (1, [.ref q1, .ref q2, .long cb])), (r, .inr (0, [.ref r1])), (o1, .inl (cL, 40, .inr (.inl so))), (o2, .inl (cL, 40, .inr (.inl go))), (q1, .inl (cL, 40, .inr (.inl sb))), (q2, .inl (cL, 40, .inr (.inl gb))), (r1, .inl (cL, 40, .inr (.inl bl)))] sz) := by
  refine Met.ofW (cc := cB_drop) (maxL := 2) (ret := (some .boolean)) (by decide) rfl ?_
  intro p e s m args below meth c s₁ B hml hv
  obtain ⟨rfl, hsz, hP, hK, hN, hD0⟩ := hv
  have hx := B.exec
  have hb := B.bytes
  have hr := B.returns
  have hts := atoms_spec (ws := wsB_drop) B.pre
  have hT : ∀ w ∈ bwB, w.before _ s = true := fun w h => hts w (List.mem_cons_of_mem _ h)
  have hown : s.vm.findClass RB = some m.cls := findClass_of_methodNamed B.named
  have hlocks := B.notSynchronized
  subst hsz
  have hD := hD0.self (sz := s.heap.size)
  generalize hAe : va_A [(x, .inr (2, [.long T, .ref t1, .ref o, .ref q, .ref r, .int f1, .int f2])), (t1, .inl (cI, 40, .inl tc)), (o, .inr (1, [.ref o1, .ref o2, .long co])), (q, .inr (1, [.ref q1, .ref q2, .long cb])), (r, .inr (0, [.ref r1])), (o1, .inl (cL, 40, .inr (.inl so))), (o2, .inl (cL, 40, .inr (.inl go))), (q1, .inl (cL, 40, .inr (.inl sb))), (q2, .inl (cL, 40, .inr (.inl gb))), (r1, .inl (cL, 40, .inr (.inl bl)))] s.heap.size = A at hD ⊢
  have hA : ∀ q : Nat, s.heap.size ≤ q → A q := fun q h => by rw [← hAe]; exact Or.inr h
  have hS : va_S A s.heap s.heap [] := va_S.rf
  have hP : va_P (dC, dI) vwCl [(x, .inr (2, [.long T, .ref t1, .ref o, .ref q, .ref r, .int f1, .int f2])), (t1, .inl (cI, 40, .inl tc)), (o, .inr (1, [.ref o1, .ref o2, .long co])), (q, .inr (1, [.ref q1, .ref q2, .long cb])), (r, .inr (0, [.ref r1])), (o1, .inl (cL, 40, .inr (.inl so))), (o2, .inl (cL, 40, .inr (.inl go))), (q1, .inl (cL, 40, .inr (.inl sb))), (q2, .inl (cL, 40, .inr (.inl gb))), (r1, .inl (cL, 40, .inr (.inl bl)))] s.heap := hP
  have hl := lv_entry ([.ref x, .int b]) (n := 2) (Nat.le_of_ble_eq_true rfl)
  rw [lg_entry_eq]
  generalize (lg_sl ([.ref x, .int b]) ++ List.replicate (2 - (lg_sl ([.ref x, .int b])).length) Slot.unset).toArray = ls at hl ⊢
  have hl : lv_has ls 2 [(0, .ref x), (1, .int b)] := hl
  refine lv_aload_n hx hb dB_drop_0 rfl (lv_at hl 0 rfl) ?_
  refine lv_iload_n hx hb dB_drop_1 rfl (lv_at hl 1 rfl) ?_
  have hPc := hP.sub (ws' := [(x, .inr (2, [.long T, .ref t1, .ref o, .ref q, .ref r, .int f1, .int f2]))]) [0] rfl
  have hKc := hK.sub (tys' := []) [] rfl
  refine vp_callSi (W.runV (As := [.int b]) (rest := []) ⟨hx, hb, hml, hown, hT⟩ (c_isTold0 l dC dI x t1 o q r T f1 f2 b hb9) (cwV 1 hT g_B_56 rfl rfl rfl (by decide +kernel) ⟨Nat.le_of_ble_eq_true rfl, Nat.le_of_ble_eq_true rfl⟩) (bw_pV hPc hKc hN (ci := 2) (q0 := 0) rfl rfl) rfl rfl hl.1 rfl (lv_room (Nat.le_of_ble_eq_true rfl)) dB_drop_2 ⟨Nat.le_of_ble_eq_true rfl, Nat.le_of_ble_eq_true rfl⟩) (fun r_1 hr_1 => ?_)
  rw [hr_1]; clear hr_1
  refine lv_if_ne (tgt := 10) hx hb dB_drop_5 (by decide) (fun c_2 => ?_) (fun c_2 => ?_)
  · skip
    exact absurd rfl c_2
  · skip
    refine lv_iconst (v := 0) hx hb dB_drop_8 (by decide) ?_
    have hP9 := hP.sub (ws' := [(x, .inr (2, [.long T, .ref t1, .ref o, .ref q, .ref r, .int f1, .int f2])), (t1, .inl (cI, 40, .inl tc)), (o, .inr (1, [.ref o1, .ref o2, .long co])), (q, .inr (1, [.ref q1, .ref q2, .long cb])), (r, .inr (0, [.ref r1])), (o1, .inl (cL, 40, .inr (.inl so))), (o2, .inl (cL, 40, .inr (.inl go))), (q1, .inl (cL, 40, .inr (.inl sb))), (q2, .inl (cL, 40, .inr (.inl gb))), (r1, .inl (cL, 40, .inr (.inl bl)))]) [0, 1, 2, 3, 4, 5, 6, 7, 8, 9] rfl
    have hD9 := hD.sub (ws' := [(x, .inr (2, [.long T, .ref t1, .ref o, .ref q, .ref r, .int f1, .int f2])), (t1, .inl (cI, 40, .inl tc)), (o, .inr (1, [.ref o1, .ref o2, .long co])), (q, .inr (1, [.ref q1, .ref q2, .long cb])), (r, .inr (0, [.ref r1])), (o1, .inl (cL, 40, .inr (.inl so))), (o2, .inl (cL, 40, .inr (.inl go))), (q1, .inl (cL, 40, .inr (.inl sb))), (q2, .inl (cL, 40, .inr (.inl gb))), (r1, .inl (cL, 40, .inr (.inl bl)))]) [0, 1, 2, 3, 4, 5, 6, 7, 8, 9] (by decide) rfl
    exact W.zret (v := 0) hx hb hr rfl (fun t9 ht9 hW9 => ⟨⟨_, (), rfl, rfl, by rw [ht9]; exact hP9, by exact hD9⟩, hS.F ht9⟩) hS.2.2 dB_drop_9
set_option maxHeartbeats 4000000 in
set_option maxRecDepth 100000 in
theorem c_dropF (l : Launch) (dC : Nat → ClassId) (dI : Nat → Nat → Nat) (x t1 o o1 o2 q q1 q2 r r1 : Nat) (cI cL : ClassId) (T : Int64) (tc : Nat → Int32) (so go : Nat → Int64) (co : Int64) (sb gb : Nat → Int64) (cb : Int64) (bl : Nat → Int64) (f1 f2 : Int32) (k : Nat) (hk : k < 40) (hT9 : bw_m T k = false) (sz : Nat) : Met l yB_drop wsB_drop ({ frames := 3, cells := 0, slots := 0, locals := 63 } : Room) (bw_Wr (dC, dI) [(cI, .int), (cL, .long)] [(x, .inr (2, [.long T, .ref t1, .ref o, .ref q, .ref r, .int f1, .int f2])), (t1, .inl (cI, 40, .inl tc)), (o, .inr (1, [.ref o1, .ref o2, .long co])), (q, .inr (1, [.ref q1, .ref q2, .long cb])), (r, .inr (0, [.ref r1])), (o1, .inl (cL, 40, .inr (.inl so))), (o2, .inl (cL, 40, .inr (.inl go))), (q1, .inl (cL, 40, .inr (.inl sb))), (q2, .inl (cL, 40, .inr (.inl gb))), (r1, .inl (cL, 40, .inr (.inl bl)))] sz [.ref x, .int (nI k)]) (va_Qi (S := Unit) (fun r _ => r = 0) (fun (_ : Unit) t => va_P (dC, dI) vwCl [(x, .inr (2, [.long T, .ref t1, .ref o, .ref q, .ref r, .int f1, .int f2])), (t1, .inl (cI, 40, .inl tc)), (o, .inr (1, [.ref o1, .ref o2, .long co])), (q, .inr (1, [.ref q1, .ref q2, .long cb])), (r, .inr (0, [.ref r1])), (o1, .inl (cL, 40, .inr (.inl so))), (o2, .inl (cL, 40, .inr (.inl go))), (q1, .inl (cL, 40, .inr (.inl sb))), (q2, .inl (cL, 40, .inr (.inl gb))), (r1, .inl (cL, 40, .inr (.inl bl)))] t.heap ∧ va_D (va_A [(x, .inr (2, [.long T, .ref t1, .ref o, .ref q, .ref r, .int f1, .int f2])), (t1, .inl (cI, 40, .inl tc)), (o, .inr (1, [.ref o1, .ref o2, .long co])), (q, .inr (1, [.ref q1, .ref q2, .long cb])), (r, .inr (0, [.ref r1])), (o1, .inl (cL, 40, .inr (.inl so))), (o2, .inl (cL, 40, .inr (.inl go))), (q1, .inl (cL, 40, .inr (.inl sb))), (q2, .inl (cL, 40, .inr (.inl gb))), (r1, .inl (cL, 40, .inr (.inl bl)))] sz) [(x, .inr (2, [.long T, .ref t1, .ref o, .ref q, .ref r, .int f1, .int f2])), (t1, .inl (cI, 40, .inl tc)), (o, .inr (1, [.ref o1, .ref o2, .long co])), (q, .inr (1, [.ref q1, .ref q2, .long cb])), (r, .inr (0, [.ref r1])), (o1, .inl (cL, 40, .inr (.inl so))), (o2, .inl (cL, 40, .inr (.inl go))), (q1, .inl (cL, 40, .inr (.inl sb))), (q2, .inl (cL, 40, .inr (.inl gb))), (r1, .inl (cL, 40, .inr (.inl bl)))]) (va_A [(x, .inr (2, [.long T, .ref t1, .ref o, .ref q, .ref r, .int f1, .int f2])), (t1, .inl (cI, 40, .inl tc)), (o, .inr (1, [.ref o1, .ref o2, .long co])), (q, .inr (1, [.ref q1, .ref q2, .long cb])), (r, .inr (0, [.ref r1])), (o1, .inl (cL, 40, .inr (.inl so))), (o2, .inl (cL, 40, .inr (.inl go))), (q1, .inl (cL, 40, .inr (.inl sb))), (q2, .inl (cL, 40, .inr (.inl gb))), (r1, .inl (cL, 40, .inr (.inl bl)))] sz)) 0 0 (va_A [(x, .inr (2, [.long T, .ref t1, .ref o, .ref q, .ref r, .int f1, .int f2])), (t1, .inl (cI, 40, .inl tc)), (o, .inr (1, [.ref o1, .ref o2, .long co])), (q, .inr (1, [.ref q1, .ref q2, .long cb])), (r, .inr (0, [.ref r1])), (o1, .inl (cL, 40, .inr (.inl so))), (o2, .inl (cL, 40, .inr (.inl go))), (q1, .inl (cL, 40, .inr (.inl sb))), (q2, .inl (cL, 40, .inr (.inl gb))), (r1, .inl (cL, 40, .inr (.inl bl)))] sz) := by
  refine Met.ofW (cc := cB_drop) (maxL := 2) (ret := (some .boolean)) (by decide) rfl ?_
  intro p e s m args below meth c s₁ B hml hv
  obtain ⟨rfl, hsz, hP, hK, hN, hD0⟩ := hv
  have hx := B.exec
  have hb := B.bytes
  have hr := B.returns
  have hts := atoms_spec (ws := wsB_drop) B.pre
  have hT : ∀ w ∈ bwB, w.before _ s = true := fun w h => hts w (List.mem_cons_of_mem _ h)
  have hown : s.vm.findClass RB = some m.cls := findClass_of_methodNamed B.named
  have hlocks := B.notSynchronized
  subst hsz
  have hD := hD0.self (sz := s.heap.size)
  generalize hAe : va_A [(x, .inr (2, [.long T, .ref t1, .ref o, .ref q, .ref r, .int f1, .int f2])), (t1, .inl (cI, 40, .inl tc)), (o, .inr (1, [.ref o1, .ref o2, .long co])), (q, .inr (1, [.ref q1, .ref q2, .long cb])), (r, .inr (0, [.ref r1])), (o1, .inl (cL, 40, .inr (.inl so))), (o2, .inl (cL, 40, .inr (.inl go))), (q1, .inl (cL, 40, .inr (.inl sb))), (q2, .inl (cL, 40, .inr (.inl gb))), (r1, .inl (cL, 40, .inr (.inl bl)))] s.heap.size = A at hD ⊢
  have hA : ∀ q : Nat, s.heap.size ≤ q → A q := fun q h => by rw [← hAe]; exact Or.inr h
  have hS : va_S A s.heap s.heap [] := va_S.rf
  have hP : va_P (dC, dI) vwCl [(x, .inr (2, [.long T, .ref t1, .ref o, .ref q, .ref r, .int f1, .int f2])), (t1, .inl (cI, 40, .inl tc)), (o, .inr (1, [.ref o1, .ref o2, .long co])), (q, .inr (1, [.ref q1, .ref q2, .long cb])), (r, .inr (0, [.ref r1])), (o1, .inl (cL, 40, .inr (.inl so))), (o2, .inl (cL, 40, .inr (.inl go))), (q1, .inl (cL, 40, .inr (.inl sb))), (q2, .inl (cL, 40, .inr (.inl gb))), (r1, .inl (cL, 40, .inr (.inl bl)))] s.heap := hP
  have hl := lv_entry ([.ref x, .int (nI k)]) (n := 2) (Nat.le_of_ble_eq_true rfl)
  rw [lg_entry_eq]
  generalize (lg_sl ([.ref x, .int (nI k)]) ++ List.replicate (2 - (lg_sl ([.ref x, .int (nI k)])).length) Slot.unset).toArray = ls at hl ⊢
  have hl : lv_has ls 2 [(0, .ref x), (1, .int (nI k))] := hl
  refine lv_aload_n hx hb dB_drop_0 rfl (lv_at hl 0 rfl) ?_
  refine lv_iload_n hx hb dB_drop_1 rfl (lv_at hl 1 rfl) ?_
  have hPc := hP.sub (ws' := [(x, .inr (2, [.long T, .ref t1, .ref o, .ref q, .ref r, .int f1, .int f2]))]) [0] rfl
  have hKc := hK.sub (tys' := []) [] rfl
  refine vp_callSi (W.runV (As := [.int (nI k)]) (rest := []) ⟨hx, hb, hml, hown, hT⟩ (c_isTold1 l dC dI x t1 o q r T f1 f2 k (by omega)) (cwV 1 hT g_B_56 rfl rfl rfl (by decide +kernel) ⟨Nat.le_of_ble_eq_true rfl, Nat.le_of_ble_eq_true rfl⟩) (bw_pV hPc hKc hN (ci := 2) (q0 := 0) rfl rfl) rfl rfl hl.1 rfl (lv_room (Nat.le_of_ble_eq_true rfl)) dB_drop_2 ⟨Nat.le_of_ble_eq_true rfl, Nat.le_of_ble_eq_true rfl⟩) (fun r_1 hr_1 => ?_)
  rw [hr_1]; clear hr_1
  refine lv_if_ne (tgt := 10) hx hb dB_drop_5 (by decide) (fun c_2 => ?_) (fun c_2 => ?_)
  · skip
    have c_2 := bw_in0 c_2
    rw [hT9] at c_2; cases c_2
  · skip
    have c_2 := bw_i0.mp c_2
    refine lv_iconst (v := 0) hx hb dB_drop_8 (by decide) ?_
    have hP9 := hP.sub (ws' := [(x, .inr (2, [.long T, .ref t1, .ref o, .ref q, .ref r, .int f1, .int f2])), (t1, .inl (cI, 40, .inl tc)), (o, .inr (1, [.ref o1, .ref o2, .long co])), (q, .inr (1, [.ref q1, .ref q2, .long cb])), (r, .inr (0, [.ref r1])), (o1, .inl (cL, 40, .inr (.inl so))), (o2, .inl (cL, 40, .inr (.inl go))), (q1, .inl (cL, 40, .inr (.inl sb))), (q2, .inl (cL, 40, .inr (.inl gb))), (r1, .inl (cL, 40, .inr (.inl bl)))]) [0, 1, 2, 3, 4, 5, 6, 7, 8, 9] rfl
    have hD9 := hD.sub (ws' := [(x, .inr (2, [.long T, .ref t1, .ref o, .ref q, .ref r, .int f1, .int f2])), (t1, .inl (cI, 40, .inl tc)), (o, .inr (1, [.ref o1, .ref o2, .long co])), (q, .inr (1, [.ref q1, .ref q2, .long cb])), (r, .inr (0, [.ref r1])), (o1, .inl (cL, 40, .inr (.inl so))), (o2, .inl (cL, 40, .inr (.inl go))), (q1, .inl (cL, 40, .inr (.inl sb))), (q2, .inl (cL, 40, .inr (.inl gb))), (r1, .inl (cL, 40, .inr (.inl bl)))]) [0, 1, 2, 3, 4, 5, 6, 7, 8, 9] (by decide) rfl
    exact W.zret (v := 0) hx hb hr rfl (fun t9 ht9 hW9 => ⟨⟨_, (), rfl, rfl, by rw [ht9]; exact hP9, by exact hD9⟩, hS.F ht9⟩) hS.2.2 dB_drop_9
set_option maxHeartbeats 4000000 in
set_option maxRecDepth 100000 in
theorem c_dropT (l : Launch) (dC : Nat → ClassId) (dI : Nat → Nat → Nat) (x t1 o o1 o2 q q1 q2 r r1 : Nat) (cI cL : ClassId) (T : Int64) (tc : Nat → Int32) (so go : Nat → Int64) (co : Int64) (sb gb : Nat → Int64) (cb : Int64) (bl : Nat → Int64) (f1 f2 : Int32) (k : Nat) (hk : k < 40) (hT9 : bw_m T k = true) (sz : Nat) : Met l yB_drop wsB_drop ({ frames := 3, cells := 0, slots := 0, locals := 63 } : Room) (bw_Wr (dC, dI) [(cI, .int), (cL, .long)] [(x, .inr (2, [.long T, .ref t1, .ref o, .ref q, .ref r, .int f1, .int f2])), (t1, .inl (cI, 40, .inl tc)), (o, .inr (1, [.ref o1, .ref o2, .long co])), (q, .inr (1, [.ref q1, .ref q2, .long cb])), (r, .inr (0, [.ref r1])), (o1, .inl (cL, 40, .inr (.inl so))), (o2, .inl (cL, 40, .inr (.inl go))), (q1, .inl (cL, 40, .inr (.inl sb))), (q2, .inl (cL, 40, .inr (.inl gb))), (r1, .inl (cL, 40, .inr (.inl bl)))] sz [.ref x, .int (nI k)]) (va_Qi (S := Unit) (fun r _ => r = 1) (fun (_ : Unit) t => va_P (dC, dI) vwCl [(x, .inr (2, [.long (T &&& (bw_b k ^^^ (-1))), .ref t1, .ref o, .ref q, .ref r, .int 1, .int 1])), (t1, .inl (cI, 40, .inl (upd tc k 0))), (o, .inr (1, [.ref o1, .ref o2, .long co])), (q, .inr (1, [.ref q1, .ref q2, .long cb])), (r, .inr (0, [.ref r1])), (o1, .inl (cL, 40, .inr (.inl (vp_updL so k 0)))), (o2, .inl (cL, 40, .inr (.inl go))), (q1, .inl (cL, 40, .inr (.inl (bw_out sb k 40)))), (q2, .inl (cL, 40, .inr (.inl gb))), (r1, .inl (cL, 40, .inr (.inl bl)))] t.heap ∧ va_D (va_A [(x, .inr (2, [.long T, .ref t1, .ref o, .ref q, .ref r, .int f1, .int f2])), (t1, .inl (cI, 40, .inl tc)), (o, .inr (1, [.ref o1, .ref o2, .long co])), (q, .inr (1, [.ref q1, .ref q2, .long cb])), (r, .inr (0, [.ref r1])), (o1, .inl (cL, 40, .inr (.inl so))), (o2, .inl (cL, 40, .inr (.inl go))), (q1, .inl (cL, 40, .inr (.inl sb))), (q2, .inl (cL, 40, .inr (.inl gb))), (r1, .inl (cL, 40, .inr (.inl bl)))] sz) [(x, .inr (2, [.long (T &&& (bw_b k ^^^ (-1))), .ref t1, .ref o, .ref q, .ref r, .int 1, .int 1])), (t1, .inl (cI, 40, .inl (upd tc k 0))), (o, .inr (1, [.ref o1, .ref o2, .long co])), (q, .inr (1, [.ref q1, .ref q2, .long cb])), (r, .inr (0, [.ref r1])), (o1, .inl (cL, 40, .inr (.inl (vp_updL so k 0)))), (o2, .inl (cL, 40, .inr (.inl go))), (q1, .inl (cL, 40, .inr (.inl (bw_out sb k 40)))), (q2, .inl (cL, 40, .inr (.inl gb))), (r1, .inl (cL, 40, .inr (.inl bl)))]) (va_A [(x, .inr (2, [.long T, .ref t1, .ref o, .ref q, .ref r, .int f1, .int f2])), (t1, .inl (cI, 40, .inl tc)), (o, .inr (1, [.ref o1, .ref o2, .long co])), (q, .inr (1, [.ref q1, .ref q2, .long cb])), (r, .inr (0, [.ref r1])), (o1, .inl (cL, 40, .inr (.inl so))), (o2, .inl (cL, 40, .inr (.inl go))), (q1, .inl (cL, 40, .inr (.inl sb))), (q2, .inl (cL, 40, .inr (.inl gb))), (r1, .inl (cL, 40, .inr (.inl bl)))] sz)) 0 0 (va_A [(x, .inr (2, [.long T, .ref t1, .ref o, .ref q, .ref r, .int f1, .int f2])), (t1, .inl (cI, 40, .inl tc)), (o, .inr (1, [.ref o1, .ref o2, .long co])), (q, .inr (1, [.ref q1, .ref q2, .long cb])), (r, .inr (0, [.ref r1])), (o1, .inl (cL, 40, .inr (.inl so))), (o2, .inl (cL, 40, .inr (.inl go))), (q1, .inl (cL, 40, .inr (.inl sb))), (q2, .inl (cL, 40, .inr (.inl gb))), (r1, .inl (cL, 40, .inr (.inl bl)))] sz) := by
  refine Met.ofW (cc := cB_drop) (maxL := 2) (ret := (some .boolean)) (by decide) rfl ?_
  intro p e s m args below meth c s₁ B hml hv
  obtain ⟨rfl, hsz, hP, hK, hN, hD0⟩ := hv
  have hx := B.exec
  have hb := B.bytes
  have hr := B.returns
  have hts := atoms_spec (ws := wsB_drop) B.pre
  have hT : ∀ w ∈ bwB, w.before _ s = true := fun w h => hts w (List.mem_cons_of_mem _ h)
  have hown : s.vm.findClass RB = some m.cls := findClass_of_methodNamed B.named
  have hlocks := B.notSynchronized
  subst hsz
  have hD := hD0.self (sz := s.heap.size)
  generalize hAe : va_A [(x, .inr (2, [.long T, .ref t1, .ref o, .ref q, .ref r, .int f1, .int f2])), (t1, .inl (cI, 40, .inl tc)), (o, .inr (1, [.ref o1, .ref o2, .long co])), (q, .inr (1, [.ref q1, .ref q2, .long cb])), (r, .inr (0, [.ref r1])), (o1, .inl (cL, 40, .inr (.inl so))), (o2, .inl (cL, 40, .inr (.inl go))), (q1, .inl (cL, 40, .inr (.inl sb))), (q2, .inl (cL, 40, .inr (.inl gb))), (r1, .inl (cL, 40, .inr (.inl bl)))] s.heap.size = A at hD ⊢
  have hA : ∀ q : Nat, s.heap.size ≤ q → A q := fun q h => by rw [← hAe]; exact Or.inr h
  have hS : va_S A s.heap s.heap [] := va_S.rf
  have hP : va_P (dC, dI) vwCl [(x, .inr (2, [.long T, .ref t1, .ref o, .ref q, .ref r, .int f1, .int f2])), (t1, .inl (cI, 40, .inl tc)), (o, .inr (1, [.ref o1, .ref o2, .long co])), (q, .inr (1, [.ref q1, .ref q2, .long cb])), (r, .inr (0, [.ref r1])), (o1, .inl (cL, 40, .inr (.inl so))), (o2, .inl (cL, 40, .inr (.inl go))), (q1, .inl (cL, 40, .inr (.inl sb))), (q2, .inl (cL, 40, .inr (.inl gb))), (r1, .inl (cL, 40, .inr (.inl bl)))] s.heap := hP
  have hl := lv_entry ([.ref x, .int (nI k)]) (n := 2) (Nat.le_of_ble_eq_true rfl)
  rw [lg_entry_eq]
  generalize (lg_sl ([.ref x, .int (nI k)]) ++ List.replicate (2 - (lg_sl ([.ref x, .int (nI k)])).length) Slot.unset).toArray = ls at hl ⊢
  have hl : lv_has ls 2 [(0, .ref x), (1, .int (nI k))] := hl
  refine lv_aload_n hx hb dB_drop_0 rfl (lv_at hl 0 rfl) ?_
  refine lv_iload_n hx hb dB_drop_1 rfl (lv_at hl 1 rfl) ?_
  have hPc := hP.sub (ws' := [(x, .inr (2, [.long T, .ref t1, .ref o, .ref q, .ref r, .int f1, .int f2]))]) [0] rfl
  have hKc := hK.sub (tys' := []) [] rfl
  refine vp_callSi (W.runV (As := [.int (nI k)]) (rest := []) ⟨hx, hb, hml, hown, hT⟩ (c_isTold1 l dC dI x t1 o q r T f1 f2 k (by omega)) (cwV 1 hT g_B_56 rfl rfl rfl (by decide +kernel) ⟨Nat.le_of_ble_eq_true rfl, Nat.le_of_ble_eq_true rfl⟩) (bw_pV hPc hKc hN (ci := 2) (q0 := 0) rfl rfl) rfl rfl hl.1 rfl (lv_room (Nat.le_of_ble_eq_true rfl)) dB_drop_2 ⟨Nat.le_of_ble_eq_true rfl, Nat.le_of_ble_eq_true rfl⟩) (fun r_1 hr_1 => ?_)
  rw [hr_1]; clear hr_1
  refine lv_if_ne (tgt := 10) hx hb dB_drop_5 (by decide) (fun c_2 => ?_) (fun c_2 => ?_)
  · skip
    have c_2 := bw_in0 c_2
    refine lv_aload_n hx hb dB_drop_10 rfl (lv_at hl 0 rfl) ?_
    refine lv_dup hx hb dB_drop_11 rfl ?_
    refine va_get (D := (dC, dI)) (ci := 2) (v := .long T) (C := RB) (T := TB) (N := 7) hx hb hT inB hown hK hP 0 rfl rfl 0 (by decide) (hT _ hw_64) (fun _ h9 => h9) rfl dB_drop_12 ?_
    refine lv_iload_n hx hb dB_drop_15 rfl (lv_at hl 1 rfl) ?_
    refine vp_callSl (W.runS (As := [.int (nI k)]) (rest := [.long T, .ref x]) ⟨hx, hb, hml, hown, hT⟩ (c_bit l k) (cwS 1 hT g_B_49 rfl rfl rfl (by decide +kernel) ⟨Nat.le_of_ble_eq_true rfl, Nat.le_of_ble_eq_true rfl⟩) preEq rfl rfl hl.1 rfl (lv_room (Nat.le_of_ble_eq_true rfl)) dB_drop_16 ⟨Nat.le_of_ble_eq_true rfl, Nat.le_of_ble_eq_true rfl⟩) (fun r_3 hr_3 => ?_)
    rw [hr_3]; clear hr_3
    refine lv_ldc2 (v := (-1)) hx hb hown (hT _ hw_120) dB_drop_19 ?_
    refine lv_lxor hx hb dB_drop_22 ?_
    refine lv_land hx hb dB_drop_23 ?_
    refine va_put (D := (dC, dI)) (ci := 2) (v := .long (T &&& ((bw_b k) ^^^ (-1)))) (ty := .long) (C := RB) (T := TB) (N := 7) hx hb hT inB tyB tokB nmB hown hK hP hD hS 0 rfl rfl 0 (by decide) (hT _ hw_64) (fun _ h9 => h9) rfl (by decide +kernel) rfl rfl (Nat.le_of_ble_eq_true rfl) dB_drop_24 (fun H locs hP hD hS => ?_)
    have hP : va_P (dC, dI) vwCl [(x, .inr (2, [.long (T &&& ((bw_b k) ^^^ (-1))), .ref t1, .ref o, .ref q, .ref r, .int f1, .int f2])), (t1, .inl (cI, 40, .inl tc)), (o, .inr (1, [.ref o1, .ref o2, .long co])), (q, .inr (1, [.ref q1, .ref q2, .long cb])), (r, .inr (0, [.ref r1])), (o1, .inl (cL, 40, .inr (.inl so))), (o2, .inl (cL, 40, .inr (.inl go))), (q1, .inl (cL, 40, .inr (.inl sb))), (q2, .inl (cL, 40, .inr (.inl gb))), (r1, .inl (cL, 40, .inr (.inl bl)))] H := hP
    have hD : va_D A [(x, .inr (2, [.long (T &&& ((bw_b k) ^^^ (-1))), .ref t1, .ref o, .ref q, .ref r, .int f1, .int f2])), (t1, .inl (cI, 40, .inl tc)), (o, .inr (1, [.ref o1, .ref o2, .long co])), (q, .inr (1, [.ref q1, .ref q2, .long cb])), (r, .inr (0, [.ref r1])), (o1, .inl (cL, 40, .inr (.inl so))), (o2, .inl (cL, 40, .inr (.inl go))), (q1, .inl (cL, 40, .inr (.inl sb))), (q2, .inl (cL, 40, .inr (.inl gb))), (r1, .inl (cL, 40, .inr (.inl bl)))] := hD
    refine lv_aload_n hx hb dB_drop_27 rfl (lv_at hl 0 rfl) ?_
    refine va_get (D := (dC, dI)) (ci := 2) (v := .ref t1) (C := RB) (T := TB) (N := 7) hx hb hT inB hown hK hP 0 rfl rfl 1 (by decide) (hT _ hw_65) (fun _ h9 => h9) rfl dB_drop_28 ?_
    refine lv_iload_n hx hb dB_drop_31 rfl (lv_at hl 1 rfl) ?_
    refine lv_iconst (v := 0) hx hb dB_drop_32 (by decide) ?_
    refine bw_iast hx hb hK hP hD hS 1 0 (k := k) rfl rfl (by omega) (by decide) dB_drop_33 (fun H locs hP hD hS => ?_)
    have hP : va_P (dC, dI) vwCl [(x, .inr (2, [.long (T &&& ((bw_b k) ^^^ (-1))), .ref t1, .ref o, .ref q, .ref r, .int f1, .int f2])), (t1, .inl (cI, 40, .inl (upd tc k 0))), (o, .inr (1, [.ref o1, .ref o2, .long co])), (q, .inr (1, [.ref q1, .ref q2, .long cb])), (r, .inr (0, [.ref r1])), (o1, .inl (cL, 40, .inr (.inl so))), (o2, .inl (cL, 40, .inr (.inl go))), (q1, .inl (cL, 40, .inr (.inl sb))), (q2, .inl (cL, 40, .inr (.inl gb))), (r1, .inl (cL, 40, .inr (.inl bl)))] H := hP
    have hD : va_D A [(x, .inr (2, [.long (T &&& ((bw_b k) ^^^ (-1))), .ref t1, .ref o, .ref q, .ref r, .int f1, .int f2])), (t1, .inl (cI, 40, .inl (upd tc k 0))), (o, .inr (1, [.ref o1, .ref o2, .long co])), (q, .inr (1, [.ref q1, .ref q2, .long cb])), (r, .inr (0, [.ref r1])), (o1, .inl (cL, 40, .inr (.inl so))), (o2, .inl (cL, 40, .inr (.inl go))), (q1, .inl (cL, 40, .inr (.inl sb))), (q2, .inl (cL, 40, .inr (.inl gb))), (r1, .inl (cL, 40, .inr (.inl bl)))] := hD
    refine lv_aload_n hx hb dB_drop_34 rfl (lv_at hl 0 rfl) ?_
    refine va_get (D := (dC, dI)) (ci := 2) (v := .ref o) (C := RB) (T := TB) (N := 7) hx hb hT inB hown hK hP 0 rfl rfl 2 (by decide) (hT _ hw_66) (fun _ h9 => h9) rfl dB_drop_35 ?_
    refine lv_iload_n hx hb dB_drop_38 rfl (lv_at hl 1 rfl) ?_
    have hPc := hP.sub (ws' := [(o, .inr (1, [.ref o1, .ref o2, .long co])), (o1, .inl (cL, 40, .inr (.inl so))), (o2, .inl (cL, 40, .inr (.inl go)))]) [2, 5, 6] rfl
    have hDc := hD.sub (ws' := [(o, .inr (1, [.ref o1, .ref o2, .long co])), (o1, .inl (cL, 40, .inr (.inl so))), (o2, .inl (cL, 40, .inr (.inl go)))]) [2, 5, 6] (by decide) rfl
    have hKc := hK.sub (tys' := [(cL, .long)]) [1] rfl
    have hFc := va_free (wc := [(o, .inr (1, [.ref o1, .ref o2, .long co])), (o1, .inl (cL, 40, .inr (.inl so))), (o2, .inl (cL, 40, .inr (.inl go)))]) hD hS hA [2, 5, 6] rfl
    refine va_callv (va_runV (As := [.int (nI k)]) (rest := []) ⟨hx, hb, hml, hown, hT⟩ (c_removeStepsFrom l dC dI o o1 o2 cL so go co k (by omega) H.size) (cwV 1 hT g_B_65 rfl rfl rfl (by decide +kernel) ⟨Nat.le_of_ble_eq_true rfl, Nat.le_of_ble_eq_true rfl⟩) (bw_qV hPc hKc hN hDc (ci := 1) (q0 := 0) rfl rfl) rfl rfl hl.1 rfl (lv_room (Nat.le_of_ble_eq_true rfl)) dB_drop_39 ⟨Nat.le_of_ble_eq_true rfl, Nat.le_of_ble_eq_true rfl⟩) hS (fun q _ h => hFc q h) hFc (fun u_4 t_4 H1 locs ht hvm hw_4 hB hz1 hk1 hS => ?_)
    obtain ⟨hP1, hD1⟩ := hB
    rw [ht] at hP1
    obtain ⟨hP, hD⟩ := va_join (wr := [(x, .inr (2, [.long (T &&& ((bw_b k) ^^^ (-1))), .ref t1, .ref o, .ref q, .ref r, .int f1, .int f2])), (t1, .inl (cI, 40, .inl (upd tc k 0))), (q, .inr (1, [.ref q1, .ref q2, .long cb])), (r, .inr (0, [.ref r1])), (q1, .inl (cL, 40, .inr (.inl sb))), (q2, .inl (cL, 40, .inr (.inl gb))), (r1, .inl (cL, 40, .inr (.inl bl)))]) (w1 := [(o, .inr (1, [.ref o1, .ref o2, .long co])), (o1, .inl (cL, 40, .inr (.inl (vp_updL so k 0)))), (o2, .inl (cL, 40, .inr (.inl go)))]) hP hD [2, 5, 6] [0, 1, 3, 4, 7, 8, 9] rfl rfl (by decide) (by decide) hk1 hFc hP1 hD1
    generalize H1 = H at hP hS ⊢
    have hP : va_P (dC, dI) vwCl [(x, .inr (2, [.long (T &&& ((bw_b k) ^^^ (-1))), .ref t1, .ref o, .ref q, .ref r, .int f1, .int f2])), (t1, .inl (cI, 40, .inl (upd tc k 0))), (q, .inr (1, [.ref q1, .ref q2, .long cb])), (r, .inr (0, [.ref r1])), (q1, .inl (cL, 40, .inr (.inl sb))), (q2, .inl (cL, 40, .inr (.inl gb))), (r1, .inl (cL, 40, .inr (.inl bl))), (o, .inr (1, [.ref o1, .ref o2, .long co])), (o1, .inl (cL, 40, .inr (.inl (vp_updL so k 0)))), (o2, .inl (cL, 40, .inr (.inl go)))] H := hP
    have hD : va_D A [(x, .inr (2, [.long (T &&& ((bw_b k) ^^^ (-1))), .ref t1, .ref o, .ref q, .ref r, .int f1, .int f2])), (t1, .inl (cI, 40, .inl (upd tc k 0))), (q, .inr (1, [.ref q1, .ref q2, .long cb])), (r, .inr (0, [.ref r1])), (q1, .inl (cL, 40, .inr (.inl sb))), (q2, .inl (cL, 40, .inr (.inl gb))), (r1, .inl (cL, 40, .inr (.inl bl))), (o, .inr (1, [.ref o1, .ref o2, .long co])), (o1, .inl (cL, 40, .inr (.inl (vp_updL so k 0)))), (o2, .inl (cL, 40, .inr (.inl go)))] := hD
    refine lv_aload_n hx hb dB_drop_42 rfl (lv_at hl 0 rfl) ?_
    refine va_get (D := (dC, dI)) (ci := 2) (v := .ref q) (C := RB) (T := TB) (N := 7) hx hb hT inB hown hK hP 0 rfl rfl 3 (by decide) (hT _ hw_67) (fun _ h9 => h9) rfl dB_drop_43 ?_
    refine lv_iload_n hx hb dB_drop_46 rfl (lv_at hl 1 rfl) ?_
    have hPc := hP.sub (ws' := [(q, .inr (1, [.ref q1, .ref q2, .long cb])), (q1, .inl (cL, 40, .inr (.inl sb))), (q2, .inl (cL, 40, .inr (.inl gb)))]) [2, 4, 5] rfl
    have hDc := hD.sub (ws' := [(q, .inr (1, [.ref q1, .ref q2, .long cb])), (q1, .inl (cL, 40, .inr (.inl sb))), (q2, .inl (cL, 40, .inr (.inl gb)))]) [2, 4, 5] (by decide) rfl
    have hKc := hK.sub (tys' := [(cL, .long)]) [1] rfl
    have hFc := va_free (wc := [(q, .inr (1, [.ref q1, .ref q2, .long cb])), (q1, .inl (cL, 40, .inr (.inl sb))), (q2, .inl (cL, 40, .inr (.inl gb)))]) hD hS hA [2, 4, 5] rfl
    refine va_callv (va_runV (As := [.int (nI k)]) (rest := []) ⟨hx, hb, hml, hown, hT⟩ (c_removeStepsTo l dC dI q q1 q2 cL sb gb cb k (by omega) H.size) (cwV 1 hT g_B_69 rfl rfl rfl (by decide +kernel) ⟨Nat.le_of_ble_eq_true rfl, Nat.le_of_ble_eq_true rfl⟩) (bw_qV hPc hKc hN hDc (ci := 1) (q0 := 0) rfl rfl) rfl rfl hl.1 rfl (lv_room (Nat.le_of_ble_eq_true rfl)) dB_drop_47 ⟨Nat.le_of_ble_eq_true rfl, Nat.le_of_ble_eq_true rfl⟩) hS (fun q _ h => hFc q h) hFc (fun u_5 t_5 H1 locs ht hvm hw_5 hB hz1 hk1 hS => ?_)
    obtain ⟨hP1, hD1⟩ := hB
    rw [ht] at hP1
    obtain ⟨hP, hD⟩ := va_join (wr := [(x, .inr (2, [.long (T &&& ((bw_b k) ^^^ (-1))), .ref t1, .ref o, .ref q, .ref r, .int f1, .int f2])), (t1, .inl (cI, 40, .inl (upd tc k 0))), (r, .inr (0, [.ref r1])), (r1, .inl (cL, 40, .inr (.inl bl))), (o, .inr (1, [.ref o1, .ref o2, .long co])), (o1, .inl (cL, 40, .inr (.inl (vp_updL so k 0)))), (o2, .inl (cL, 40, .inr (.inl go)))]) (w1 := [(q, .inr (1, [.ref q1, .ref q2, .long cb])), (q1, .inl (cL, 40, .inr (.inl (bw_out sb k 40)))), (q2, .inl (cL, 40, .inr (.inl gb)))]) hP hD [2, 4, 5] [0, 1, 3, 6, 7, 8, 9] rfl rfl (by decide) (by decide) hk1 hFc hP1 hD1
    generalize H1 = H at hP hS ⊢
    have hP : va_P (dC, dI) vwCl [(x, .inr (2, [.long (T &&& ((bw_b k) ^^^ (-1))), .ref t1, .ref o, .ref q, .ref r, .int f1, .int f2])), (t1, .inl (cI, 40, .inl (upd tc k 0))), (r, .inr (0, [.ref r1])), (r1, .inl (cL, 40, .inr (.inl bl))), (o, .inr (1, [.ref o1, .ref o2, .long co])), (o1, .inl (cL, 40, .inr (.inl (vp_updL so k 0)))), (o2, .inl (cL, 40, .inr (.inl go))), (q, .inr (1, [.ref q1, .ref q2, .long cb])), (q1, .inl (cL, 40, .inr (.inl (bw_out sb k 40)))), (q2, .inl (cL, 40, .inr (.inl gb)))] H := hP
    have hD : va_D A [(x, .inr (2, [.long (T &&& ((bw_b k) ^^^ (-1))), .ref t1, .ref o, .ref q, .ref r, .int f1, .int f2])), (t1, .inl (cI, 40, .inl (upd tc k 0))), (r, .inr (0, [.ref r1])), (r1, .inl (cL, 40, .inr (.inl bl))), (o, .inr (1, [.ref o1, .ref o2, .long co])), (o1, .inl (cL, 40, .inr (.inl (vp_updL so k 0)))), (o2, .inl (cL, 40, .inr (.inl go))), (q, .inr (1, [.ref q1, .ref q2, .long cb])), (q1, .inl (cL, 40, .inr (.inl (bw_out sb k 40)))), (q2, .inl (cL, 40, .inr (.inl gb)))] := hD
    refine lv_aload_n hx hb dB_drop_50 rfl (lv_at hl 0 rfl) ?_
    have hPc := hP.sub (ws' := [(x, .inr (2, [.long (T &&& ((bw_b k) ^^^ (-1))), .ref t1, .ref o, .ref q, .ref r, .int f1, .int f2]))]) [0] rfl
    have hDc := hD.sub (ws' := [(x, .inr (2, [.long (T &&& ((bw_b k) ^^^ (-1))), .ref t1, .ref o, .ref q, .ref r, .int f1, .int f2]))]) [0] (by decide) rfl
    have hKc := hK.sub (tys' := []) [] rfl
    have hFc := va_free (wc := [(x, .inr (2, [.long (T &&& ((bw_b k) ^^^ (-1))), .ref t1, .ref o, .ref q, .ref r, .int f1, .int f2]))]) hD hS hA [0] rfl
    refine va_callv (va_runV (As := []) (rest := []) ⟨hx, hb, hml, hown, hT⟩ (c_forget l dC dI x t1 o q r (T &&& ((bw_b k) ^^^ (-1))) f1 f2 H.size) (cwV 0 hT g_B_53 rfl rfl rfl (by decide +kernel) ⟨Nat.le_of_ble_eq_true rfl, Nat.le_of_ble_eq_true rfl⟩) (bw_qV hPc hKc hN hDc (ci := 2) (q0 := 0) rfl rfl) rfl rfl hl.1 rfl (lv_room (Nat.le_of_ble_eq_true rfl)) dB_drop_51 ⟨Nat.le_of_ble_eq_true rfl, Nat.le_of_ble_eq_true rfl⟩) hS (fun q _ h => hFc q h) hFc (fun u_6 t_6 H1 locs ht hvm hw_6 hB hz1 hk1 hS => ?_)
    obtain ⟨hP1, hD1⟩ := hB
    rw [ht] at hP1
    obtain ⟨hP, hD⟩ := va_join (wr := [(t1, .inl (cI, 40, .inl (upd tc k 0))), (r, .inr (0, [.ref r1])), (r1, .inl (cL, 40, .inr (.inl bl))), (o, .inr (1, [.ref o1, .ref o2, .long co])), (o1, .inl (cL, 40, .inr (.inl (vp_updL so k 0)))), (o2, .inl (cL, 40, .inr (.inl go))), (q, .inr (1, [.ref q1, .ref q2, .long cb])), (q1, .inl (cL, 40, .inr (.inl (bw_out sb k 40)))), (q2, .inl (cL, 40, .inr (.inl gb)))]) (w1 := [(x, .inr (2, [.long (T &&& ((bw_b k) ^^^ (-1))), .ref t1, .ref o, .ref q, .ref r, .int 1, .int 1]))]) hP hD [0] [1, 2, 3, 4, 5, 6, 7, 8, 9] rfl rfl (by decide) (by decide) hk1 hFc hP1 hD1
    generalize H1 = H at hP hS ⊢
    have hP : va_P (dC, dI) vwCl [(t1, .inl (cI, 40, .inl (upd tc k 0))), (r, .inr (0, [.ref r1])), (r1, .inl (cL, 40, .inr (.inl bl))), (o, .inr (1, [.ref o1, .ref o2, .long co])), (o1, .inl (cL, 40, .inr (.inl (vp_updL so k 0)))), (o2, .inl (cL, 40, .inr (.inl go))), (q, .inr (1, [.ref q1, .ref q2, .long cb])), (q1, .inl (cL, 40, .inr (.inl (bw_out sb k 40)))), (q2, .inl (cL, 40, .inr (.inl gb))), (x, .inr (2, [.long (T &&& ((bw_b k) ^^^ (-1))), .ref t1, .ref o, .ref q, .ref r, .int 1, .int 1]))] H := hP
    have hD : va_D A [(t1, .inl (cI, 40, .inl (upd tc k 0))), (r, .inr (0, [.ref r1])), (r1, .inl (cL, 40, .inr (.inl bl))), (o, .inr (1, [.ref o1, .ref o2, .long co])), (o1, .inl (cL, 40, .inr (.inl (vp_updL so k 0)))), (o2, .inl (cL, 40, .inr (.inl go))), (q, .inr (1, [.ref q1, .ref q2, .long cb])), (q1, .inl (cL, 40, .inr (.inl (bw_out sb k 40)))), (q2, .inl (cL, 40, .inr (.inl gb))), (x, .inr (2, [.long (T &&& ((bw_b k) ^^^ (-1))), .ref t1, .ref o, .ref q, .ref r, .int 1, .int 1]))] := hD
    refine lv_iconst (v := 1) hx hb dB_drop_54 (by decide) ?_
    have hP9 := hP.sub (ws' := [(x, .inr (2, [.long (T &&& ((bw_b k) ^^^ (-1))), .ref t1, .ref o, .ref q, .ref r, .int 1, .int 1])), (t1, .inl (cI, 40, .inl (upd tc k 0))), (o, .inr (1, [.ref o1, .ref o2, .long co])), (q, .inr (1, [.ref q1, .ref q2, .long cb])), (r, .inr (0, [.ref r1])), (o1, .inl (cL, 40, .inr (.inl (vp_updL so k 0)))), (o2, .inl (cL, 40, .inr (.inl go))), (q1, .inl (cL, 40, .inr (.inl (bw_out sb k 40)))), (q2, .inl (cL, 40, .inr (.inl gb))), (r1, .inl (cL, 40, .inr (.inl bl)))]) [9, 0, 3, 6, 1, 4, 5, 7, 8, 2] rfl
    have hD9 := hD.sub (ws' := [(x, .inr (2, [.long (T &&& ((bw_b k) ^^^ (-1))), .ref t1, .ref o, .ref q, .ref r, .int 1, .int 1])), (t1, .inl (cI, 40, .inl (upd tc k 0))), (o, .inr (1, [.ref o1, .ref o2, .long co])), (q, .inr (1, [.ref q1, .ref q2, .long cb])), (r, .inr (0, [.ref r1])), (o1, .inl (cL, 40, .inr (.inl (vp_updL so k 0)))), (o2, .inl (cL, 40, .inr (.inl go))), (q1, .inl (cL, 40, .inr (.inl (bw_out sb k 40)))), (q2, .inl (cL, 40, .inr (.inl gb))), (r1, .inl (cL, 40, .inr (.inl bl)))]) [9, 0, 3, 6, 1, 4, 5, 7, 8, 2] (by decide) rfl
    exact W.zret (v := 1) hx hb hr rfl (fun t9 ht9 hW9 => ⟨⟨_, (), rfl, rfl, by rw [ht9]; exact hP9, by exact hD9⟩, hS.F ht9⟩) hS.2.2 dB_drop_55
  · skip
    have c_2 := bw_i0.mp c_2
    rw [hT9] at c_2; cases c_2
set_option maxHeartbeats 4000000 in
set_option maxRecDepth 100000 in
theorem c_lid0 (l : Launch) (dC : Nat → ClassId) (dI : Nat → Nat → Nat) (x t1 o o1 o2 q q1 q2 r r1 : Nat) (cI cL : ClassId) (T : Int64) (tc : Nat → Int32) (so go : Nat → Int64) (co : Int64) (sb gb : Nat → Int64) (cb : Int64) (bl : Nat → Int64) (f1 f2 : Int32) (b : Int32) (hb9 : ∀ k, k < 40 → ¬ b = nI k) (sz : Nat) : Met l yB_lid wsB_lid ({ frames := 1, cells := 0, slots := 0, locals := 20 } : Room) (bw_Wr (dC, dI) [(cI, .int), (cL, .long)] [(x, .inr (2, [.long T, .ref t1, .ref o, .ref q, .ref r, .int f1, .int f2])), (t1, .inl (cI, 40, .inl tc)), (o, .inr (1, [.ref o1, .ref o2, .long co])), (q, .inr (1, [.ref q1, .ref q2, .long cb])), (r, .inr (0, [.ref r1])), (o1, .inl (cL, 40, .inr (.inl so))), (o2, .inl (cL, 40, .inr (.inl go))), (q1, .inl (cL, 40, .inr (.inl sb))), (q2, .inl (cL, 40, .inr (.inl gb))), (r1, .inl (cL, 40, .inr (.inl bl)))] sz [.ref x, .int b]) (va_Qi (S := Unit) (fun r _ => r = (-1 : Int32)) (fun (_ : Unit) t => va_P (dC, dI) vwCl [(x, .inr (2, [.long T, .ref t1, .ref o, .ref q, .ref r, .int f1, .int f2])), (t1, .inl (cI, 40, .inl tc)), (o, .inr (1, [.ref o1, .ref o2, .long co])), (q, .inr (1, [.ref q1, .ref q2, .long cb])), (r, .inr (0, [.ref r1])), (o1, .inl (cL, 40, .inr (.inl so))), (o2, .inl (cL, 40, .inr (.inl go))), (q1, .inl (cL, 40, .inr (.inl sb))), (q2, .inl (cL, 40, .inr (.inl gb))), (r1, .inl (cL, 40, .inr (.inl bl)))] t.heap ∧ va_D (va_A [(x, .inr (2, [.long T, .ref t1, .ref o, .ref q, .ref r, .int f1, .int f2])), (t1, .inl (cI, 40, .inl tc)), (o, .inr (1, [.ref o1, .ref o2, .long co])), (q, .inr (1, [.ref q1, .ref q2, .long cb])), (r, .inr (0, [.ref r1])), (o1, .inl (cL, 40, .inr (.inl so))), (o2, .inl (cL, 40, .inr (.inl go))), (q1, .inl (cL, 40, .inr (.inl sb))), (q2, .inl (cL, 40, .inr (.inl gb))), (r1, .inl (cL, 40, .inr (.inl bl)))] sz) [(x, .inr (2, [.long T, .ref t1, .ref o, .ref q, .ref r, .int f1, .int f2])), (t1, .inl (cI, 40, .inl tc)), (o, .inr (1, [.ref o1, .ref o2, .long co])), (q, .inr (1, [.ref q1, .ref q2, .long cb])), (r, .inr (0, [.ref r1])), (o1, .inl (cL, 40, .inr (.inl so))), (o2, .inl (cL, 40, .inr (.inl go))), (q1, .inl (cL, 40, .inr (.inl sb))), (q2, .inl (cL, 40, .inr (.inl gb))), (r1, .inl (cL, 40, .inr (.inl bl)))]) (va_A [(x, .inr (2, [.long T, .ref t1, .ref o, .ref q, .ref r, .int f1, .int f2])), (t1, .inl (cI, 40, .inl tc)), (o, .inr (1, [.ref o1, .ref o2, .long co])), (q, .inr (1, [.ref q1, .ref q2, .long cb])), (r, .inr (0, [.ref r1])), (o1, .inl (cL, 40, .inr (.inl so))), (o2, .inl (cL, 40, .inr (.inl go))), (q1, .inl (cL, 40, .inr (.inl sb))), (q2, .inl (cL, 40, .inr (.inl gb))), (r1, .inl (cL, 40, .inr (.inl bl)))] sz)) 0 0 (va_A [(x, .inr (2, [.long T, .ref t1, .ref o, .ref q, .ref r, .int f1, .int f2])), (t1, .inl (cI, 40, .inl tc)), (o, .inr (1, [.ref o1, .ref o2, .long co])), (q, .inr (1, [.ref q1, .ref q2, .long cb])), (r, .inr (0, [.ref r1])), (o1, .inl (cL, 40, .inr (.inl so))), (o2, .inl (cL, 40, .inr (.inl go))), (q1, .inl (cL, 40, .inr (.inl sb))), (q2, .inl (cL, 40, .inr (.inl gb))), (r1, .inl (cL, 40, .inr (.inl bl)))] sz) := by
  refine Met.ofW (cc := cB_lid) (maxL := 2) (ret := (some .int)) (by decide) rfl ?_
  intro p e s m args below meth c s₁ B hml hv
  obtain ⟨rfl, hsz, hP, hK, hN, hD0⟩ := hv
  have hx := B.exec
  have hb := B.bytes
  have hr := B.returns
  have hts := atoms_spec (ws := wsB_lid) B.pre
  have hT : ∀ w ∈ bwB, w.before _ s = true := fun w h => hts w (List.mem_cons_of_mem _ h)
  have hown : s.vm.findClass RB = some m.cls := findClass_of_methodNamed B.named
  have hlocks := B.notSynchronized
  subst hsz
  have hD := hD0.self (sz := s.heap.size)
  generalize hAe : va_A [(x, .inr (2, [.long T, .ref t1, .ref o, .ref q, .ref r, .int f1, .int f2])), (t1, .inl (cI, 40, .inl tc)), (o, .inr (1, [.ref o1, .ref o2, .long co])), (q, .inr (1, [.ref q1, .ref q2, .long cb])), (r, .inr (0, [.ref r1])), (o1, .inl (cL, 40, .inr (.inl so))), (o2, .inl (cL, 40, .inr (.inl go))), (q1, .inl (cL, 40, .inr (.inl sb))), (q2, .inl (cL, 40, .inr (.inl gb))), (r1, .inl (cL, 40, .inr (.inl bl)))] s.heap.size = A at hD ⊢
  have hA : ∀ q : Nat, s.heap.size ≤ q → A q := fun q h => by rw [← hAe]; exact Or.inr h
  have hS : va_S A s.heap s.heap [] := va_S.rf
  have hP : va_P (dC, dI) vwCl [(x, .inr (2, [.long T, .ref t1, .ref o, .ref q, .ref r, .int f1, .int f2])), (t1, .inl (cI, 40, .inl tc)), (o, .inr (1, [.ref o1, .ref o2, .long co])), (q, .inr (1, [.ref q1, .ref q2, .long cb])), (r, .inr (0, [.ref r1])), (o1, .inl (cL, 40, .inr (.inl so))), (o2, .inl (cL, 40, .inr (.inl go))), (q1, .inl (cL, 40, .inr (.inl sb))), (q2, .inl (cL, 40, .inr (.inl gb))), (r1, .inl (cL, 40, .inr (.inl bl)))] s.heap := hP
  have hl := lv_entry ([.ref x, .int b]) (n := 2) (Nat.le_of_ble_eq_true rfl)
  rw [lg_entry_eq]
  generalize (lg_sl ([.ref x, .int b]) ++ List.replicate (2 - (lg_sl ([.ref x, .int b])).length) Slot.unset).toArray = ls at hl ⊢
  have hl : lv_has ls 2 [(0, .ref x), (1, .int b)] := hl
  refine lv_iload_n hx hb dB_lid_0 rfl (lv_at hl 1 rfl) ?_
  refine vp_callSi (W.runS (As := [.int b]) (rest := []) ⟨hx, hb, hml, hown, hT⟩ (c_isB0 l b hb9) (cwS 1 hT g_B_41 rfl rfl rfl (by decide +kernel) ⟨Nat.le_of_ble_eq_true rfl, Nat.le_of_ble_eq_true rfl⟩) preEq rfl rfl hl.1 rfl (lv_room (Nat.le_of_ble_eq_true rfl)) dB_lid_1 ⟨Nat.le_of_ble_eq_true rfl, Nat.le_of_ble_eq_true rfl⟩) (fun r_1 hr_1 => ?_)
  rw [hr_1]; clear hr_1
  refine lv_if_eq (tgt := 18) hx hb dB_lid_4 (by decide) (fun c_2 => ?_) (fun c_2 => ?_)
  · skip
    refine lv_iconst (v := -1) hx hb dB_lid_18 (by decide) ?_
    have hP9 := hP.sub (ws' := [(x, .inr (2, [.long T, .ref t1, .ref o, .ref q, .ref r, .int f1, .int f2])), (t1, .inl (cI, 40, .inl tc)), (o, .inr (1, [.ref o1, .ref o2, .long co])), (q, .inr (1, [.ref q1, .ref q2, .long cb])), (r, .inr (0, [.ref r1])), (o1, .inl (cL, 40, .inr (.inl so))), (o2, .inl (cL, 40, .inr (.inl go))), (q1, .inl (cL, 40, .inr (.inl sb))), (q2, .inl (cL, 40, .inr (.inl gb))), (r1, .inl (cL, 40, .inr (.inl bl)))]) [0, 1, 2, 3, 4, 5, 6, 7, 8, 9] rfl
    have hD9 := hD.sub (ws' := [(x, .inr (2, [.long T, .ref t1, .ref o, .ref q, .ref r, .int f1, .int f2])), (t1, .inl (cI, 40, .inl tc)), (o, .inr (1, [.ref o1, .ref o2, .long co])), (q, .inr (1, [.ref q1, .ref q2, .long cb])), (r, .inr (0, [.ref r1])), (o1, .inl (cL, 40, .inr (.inl so))), (o2, .inl (cL, 40, .inr (.inl go))), (q1, .inl (cL, 40, .inr (.inl sb))), (q2, .inl (cL, 40, .inr (.inl gb))), (r1, .inl (cL, 40, .inr (.inl bl)))]) [0, 1, 2, 3, 4, 5, 6, 7, 8, 9] (by decide) rfl
    exact W.iret (v := -1) hx hb hr (fun t9 ht9 hW9 => ⟨⟨_, (), rfl, rfl, by rw [ht9]; exact hP9, by exact hD9⟩, hS.F ht9⟩) hS.2.2 dB_lid_19
  · skip
    exact absurd rfl c_2
set_option maxHeartbeats 4000000 in
set_option maxRecDepth 100000 in
theorem c_lid1 (l : Launch) (dC : Nat → ClassId) (dI : Nat → Nat → Nat) (x t1 o o1 o2 q q1 q2 r r1 : Nat) (cI cL : ClassId) (T : Int64) (tc : Nat → Int32) (so go : Nat → Int64) (co : Int64) (sb gb : Nat → Int64) (cb : Int64) (bl : Nat → Int64) (f1 f2 : Int32) (k : Nat) (hk : k < 40) (sz : Nat) : Met l yB_lid wsB_lid ({ frames := 6, cells := 0, slots := 0, locals := 141 } : Room) (bw_Wr (dC, dI) [(cI, .int), (cL, .long)] [(x, .inr (2, [.long T, .ref t1, .ref o, .ref q, .ref r, .int f1, .int f2])), (t1, .inl (cI, 40, .inl tc)), (o, .inr (1, [.ref o1, .ref o2, .long co])), (q, .inr (1, [.ref q1, .ref q2, .long cb])), (r, .inr (0, [.ref r1])), (o1, .inl (cL, 40, .inr (.inl so))), (o2, .inl (cL, 40, .inr (.inl go))), (q1, .inl (cL, 40, .inr (.inl sb))), (q2, .inl (cL, 40, .inr (.inl gb))), (r1, .inl (cL, 40, .inr (.inl bl)))] sz [.ref x, .int (nI k)]) (va_Qi (S := Unit) (fun r _ => r = bw_nearA (bw_q f1 go (bw_ng so T go)) k) (fun (_ : Unit) t => va_P (dC, dI) vwCl [(x, .inr (2, [.long T, .ref t1, .ref o, .ref q, .ref r, .int 0, .int f2])), (t1, .inl (cI, 40, .inl tc)), (o, .inr (1, [.ref o1, .ref o2, .long (bw_q f1 co (bw_nc so T))])), (q, .inr (1, [.ref q1, .ref q2, .long cb])), (r, .inr (0, [.ref r1])), (o1, .inl (cL, 40, .inr (.inl so))), (o2, .inl (cL, 40, .inr (.inl (bw_q f1 go (bw_ng so T go))))), (q1, .inl (cL, 40, .inr (.inl sb))), (q2, .inl (cL, 40, .inr (.inl gb))), (r1, .inl (cL, 40, .inr (.inl (bw_q f1 bl (bw_nl so sb T go bl)))))] t.heap ∧ va_D (va_A [(x, .inr (2, [.long T, .ref t1, .ref o, .ref q, .ref r, .int f1, .int f2])), (t1, .inl (cI, 40, .inl tc)), (o, .inr (1, [.ref o1, .ref o2, .long co])), (q, .inr (1, [.ref q1, .ref q2, .long cb])), (r, .inr (0, [.ref r1])), (o1, .inl (cL, 40, .inr (.inl so))), (o2, .inl (cL, 40, .inr (.inl go))), (q1, .inl (cL, 40, .inr (.inl sb))), (q2, .inl (cL, 40, .inr (.inl gb))), (r1, .inl (cL, 40, .inr (.inl bl)))] sz) [(x, .inr (2, [.long T, .ref t1, .ref o, .ref q, .ref r, .int 0, .int f2])), (t1, .inl (cI, 40, .inl tc)), (o, .inr (1, [.ref o1, .ref o2, .long (bw_q f1 co (bw_nc so T))])), (q, .inr (1, [.ref q1, .ref q2, .long cb])), (r, .inr (0, [.ref r1])), (o1, .inl (cL, 40, .inr (.inl so))), (o2, .inl (cL, 40, .inr (.inl (bw_q f1 go (bw_ng so T go))))), (q1, .inl (cL, 40, .inr (.inl sb))), (q2, .inl (cL, 40, .inr (.inl gb))), (r1, .inl (cL, 40, .inr (.inl (bw_q f1 bl (bw_nl so sb T go bl)))))]) (va_A [(x, .inr (2, [.long T, .ref t1, .ref o, .ref q, .ref r, .int f1, .int f2])), (t1, .inl (cI, 40, .inl tc)), (o, .inr (1, [.ref o1, .ref o2, .long co])), (q, .inr (1, [.ref q1, .ref q2, .long cb])), (r, .inr (0, [.ref r1])), (o1, .inl (cL, 40, .inr (.inl so))), (o2, .inl (cL, 40, .inr (.inl go))), (q1, .inl (cL, 40, .inr (.inl sb))), (q2, .inl (cL, 40, .inr (.inl gb))), (r1, .inl (cL, 40, .inr (.inl bl)))] sz)) 0 0 (va_A [(x, .inr (2, [.long T, .ref t1, .ref o, .ref q, .ref r, .int f1, .int f2])), (t1, .inl (cI, 40, .inl tc)), (o, .inr (1, [.ref o1, .ref o2, .long co])), (q, .inr (1, [.ref q1, .ref q2, .long cb])), (r, .inr (0, [.ref r1])), (o1, .inl (cL, 40, .inr (.inl so))), (o2, .inl (cL, 40, .inr (.inl go))), (q1, .inl (cL, 40, .inr (.inl sb))), (q2, .inl (cL, 40, .inr (.inl gb))), (r1, .inl (cL, 40, .inr (.inl bl)))] sz) := by
  refine Met.ofW (cc := cB_lid) (maxL := 2) (ret := (some .int)) (by decide) rfl ?_
  intro p e s m args below meth c s₁ B hml hv
  obtain ⟨rfl, hsz, hP, hK, hN, hD0⟩ := hv
  have hx := B.exec
  have hb := B.bytes
  have hr := B.returns
  have hts := atoms_spec (ws := wsB_lid) B.pre
  have hT : ∀ w ∈ bwB, w.before _ s = true := fun w h => hts w (List.mem_cons_of_mem _ h)
  have hown : s.vm.findClass RB = some m.cls := findClass_of_methodNamed B.named
  have hlocks := B.notSynchronized
  subst hsz
  have hD := hD0.self (sz := s.heap.size)
  generalize hAe : va_A [(x, .inr (2, [.long T, .ref t1, .ref o, .ref q, .ref r, .int f1, .int f2])), (t1, .inl (cI, 40, .inl tc)), (o, .inr (1, [.ref o1, .ref o2, .long co])), (q, .inr (1, [.ref q1, .ref q2, .long cb])), (r, .inr (0, [.ref r1])), (o1, .inl (cL, 40, .inr (.inl so))), (o2, .inl (cL, 40, .inr (.inl go))), (q1, .inl (cL, 40, .inr (.inl sb))), (q2, .inl (cL, 40, .inr (.inl gb))), (r1, .inl (cL, 40, .inr (.inl bl)))] s.heap.size = A at hD ⊢
  have hA : ∀ q : Nat, s.heap.size ≤ q → A q := fun q h => by rw [← hAe]; exact Or.inr h
  have hS : va_S A s.heap s.heap [] := va_S.rf
  have hP : va_P (dC, dI) vwCl [(x, .inr (2, [.long T, .ref t1, .ref o, .ref q, .ref r, .int f1, .int f2])), (t1, .inl (cI, 40, .inl tc)), (o, .inr (1, [.ref o1, .ref o2, .long co])), (q, .inr (1, [.ref q1, .ref q2, .long cb])), (r, .inr (0, [.ref r1])), (o1, .inl (cL, 40, .inr (.inl so))), (o2, .inl (cL, 40, .inr (.inl go))), (q1, .inl (cL, 40, .inr (.inl sb))), (q2, .inl (cL, 40, .inr (.inl gb))), (r1, .inl (cL, 40, .inr (.inl bl)))] s.heap := hP
  have hl := lv_entry ([.ref x, .int (nI k)]) (n := 2) (Nat.le_of_ble_eq_true rfl)
  rw [lg_entry_eq]
  generalize (lg_sl ([.ref x, .int (nI k)]) ++ List.replicate (2 - (lg_sl ([.ref x, .int (nI k)])).length) Slot.unset).toArray = ls at hl ⊢
  have hl : lv_has ls 2 [(0, .ref x), (1, .int (nI k))] := hl
  refine lv_iload_n hx hb dB_lid_0 rfl (lv_at hl 1 rfl) ?_
  refine vp_callSi (W.runS (As := [.int (nI k)]) (rest := []) ⟨hx, hb, hml, hown, hT⟩ (c_isB1 l k (by omega)) (cwS 1 hT g_B_41 rfl rfl rfl (by decide +kernel) ⟨Nat.le_of_ble_eq_true rfl, Nat.le_of_ble_eq_true rfl⟩) preEq rfl rfl hl.1 rfl (lv_room (Nat.le_of_ble_eq_true rfl)) dB_lid_1 ⟨Nat.le_of_ble_eq_true rfl, Nat.le_of_ble_eq_true rfl⟩) (fun r_1 hr_1 => ?_)
  rw [hr_1]; clear hr_1
  refine lv_if_eq (tgt := 18) hx hb dB_lid_4 (by decide) (fun c_2 => ?_) (fun c_2 => ?_)
  · skip
    exact absurd c_2 (by decide)
  · skip
    refine lv_aload_n hx hb dB_lid_7 rfl (lv_at hl 0 rfl) ?_
    have hPc := hP.sub (ws' := [(x, .inr (2, [.long T, .ref t1, .ref o, .ref q, .ref r, .int f1, .int f2])), (t1, .inl (cI, 40, .inl tc)), (o, .inr (1, [.ref o1, .ref o2, .long co])), (q, .inr (1, [.ref q1, .ref q2, .long cb])), (r, .inr (0, [.ref r1])), (o1, .inl (cL, 40, .inr (.inl so))), (o2, .inl (cL, 40, .inr (.inl go))), (q1, .inl (cL, 40, .inr (.inl sb))), (q2, .inl (cL, 40, .inr (.inl gb))), (r1, .inl (cL, 40, .inr (.inl bl)))]) [0, 1, 2, 3, 4, 5, 6, 7, 8, 9] rfl
    have hDc := hD.sub (ws' := [(x, .inr (2, [.long T, .ref t1, .ref o, .ref q, .ref r, .int f1, .int f2])), (t1, .inl (cI, 40, .inl tc)), (o, .inr (1, [.ref o1, .ref o2, .long co])), (q, .inr (1, [.ref q1, .ref q2, .long cb])), (r, .inr (0, [.ref r1])), (o1, .inl (cL, 40, .inr (.inl so))), (o2, .inl (cL, 40, .inr (.inl go))), (q1, .inl (cL, 40, .inr (.inl sb))), (q2, .inl (cL, 40, .inr (.inl gb))), (r1, .inl (cL, 40, .inr (.inl bl)))]) [0, 1, 2, 3, 4, 5, 6, 7, 8, 9] (by decide) rfl
    have hKc := hK.sub (tys' := [(cI, .int), (cL, .long)]) [0, 1] rfl
    have hFc := va_free (wc := [(x, .inr (2, [.long T, .ref t1, .ref o, .ref q, .ref r, .int f1, .int f2])), (t1, .inl (cI, 40, .inl tc)), (o, .inr (1, [.ref o1, .ref o2, .long co])), (q, .inr (1, [.ref q1, .ref q2, .long cb])), (r, .inr (0, [.ref r1])), (o1, .inl (cL, 40, .inr (.inl so))), (o2, .inl (cL, 40, .inr (.inl go))), (q1, .inl (cL, 40, .inr (.inl sb))), (q2, .inl (cL, 40, .inr (.inl gb))), (r1, .inl (cL, 40, .inr (.inl bl)))]) hD hS hA [0, 1, 2, 3, 4, 5, 6, 7, 8, 9] rfl
    refine va_callr (va_runV (As := []) (rest := []) ⟨hx, hb, hml, hown, hT⟩ (c_freshOnward l dC dI x t1 o o1 o2 q q1 q2 r r1 cI cL T tc so go co sb gb cb bl f1 f2 s.heap.size) (cwV 0 hT g_B_78 rfl rfl rfl (by decide +kernel) ⟨Nat.le_of_ble_eq_true rfl, Nat.le_of_ble_eq_true rfl⟩) (bw_qV hPc hKc hN hDc (ci := 2) (q0 := 0) rfl rfl) rfl rfl hl.1 rfl (lv_room (Nat.le_of_ble_eq_true rfl)) dB_lid_8 ⟨Nat.le_of_ble_eq_true rfl, Nat.le_of_ble_eq_true rfl⟩) hS (fun q _ h => hFc q h) hFc (fun u_3 ra_3 t_3 H1 locs ht hvm hw_3 hB hz1 hk1 hS => ?_)
    obtain ⟨era, hP1, hD1⟩ := hB
    rw [ht] at hP1
    obtain ⟨hP, hD⟩ := va_join (wr := []) (w1 := [(x, .inr (2, [.long T, .ref t1, .ref o, .ref q, .ref r, .int 0, .int f2])), (t1, .inl (cI, 40, .inl tc)), (o, .inr (1, [.ref o1, .ref o2, .long (bw_q f1 co (bw_nc so T))])), (q, .inr (1, [.ref q1, .ref q2, .long cb])), (r, .inr (0, [.ref r1])), (o1, .inl (cL, 40, .inr (.inl so))), (o2, .inl (cL, 40, .inr (.inl (bw_q f1 go (bw_ng so T go))))), (q1, .inl (cL, 40, .inr (.inl sb))), (q2, .inl (cL, 40, .inr (.inl gb))), (r1, .inl (cL, 40, .inr (.inl (bw_q f1 bl (bw_nl so sb T go bl)))))]) hP hD [0, 1, 2, 3, 4, 5, 6, 7, 8, 9] [] rfl rfl (by decide) (by decide) hk1 hFc hP1 hD1
    generalize H1 = H at hP hS ⊢
    have hP : va_P (dC, dI) vwCl [(x, .inr (2, [.long T, .ref t1, .ref o, .ref q, .ref r, .int 0, .int f2])), (t1, .inl (cI, 40, .inl tc)), (o, .inr (1, [.ref o1, .ref o2, .long (bw_q f1 co (bw_nc so T))])), (q, .inr (1, [.ref q1, .ref q2, .long cb])), (r, .inr (0, [.ref r1])), (o1, .inl (cL, 40, .inr (.inl so))), (o2, .inl (cL, 40, .inr (.inl (bw_q f1 go (bw_ng so T go))))), (q1, .inl (cL, 40, .inr (.inl sb))), (q2, .inl (cL, 40, .inr (.inl gb))), (r1, .inl (cL, 40, .inr (.inl (bw_q f1 bl (bw_nl so sb T go bl)))))] H := hP
    have hD : va_D A [(x, .inr (2, [.long T, .ref t1, .ref o, .ref q, .ref r, .int 0, .int f2])), (t1, .inl (cI, 40, .inl tc)), (o, .inr (1, [.ref o1, .ref o2, .long (bw_q f1 co (bw_nc so T))])), (q, .inr (1, [.ref q1, .ref q2, .long cb])), (r, .inr (0, [.ref r1])), (o1, .inl (cL, 40, .inr (.inl so))), (o2, .inl (cL, 40, .inr (.inl (bw_q f1 go (bw_ng so T go))))), (q1, .inl (cL, 40, .inr (.inl sb))), (q2, .inl (cL, 40, .inr (.inl gb))), (r1, .inl (cL, 40, .inr (.inl (bw_q f1 bl (bw_nl so sb T go bl)))))] := hD
    rw [era]; clear era
    refine lv_iload_n hx hb dB_lid_11 rfl (lv_at hl 1 rfl) ?_
    have hPc := hP.sub (ws' := [(o, .inr (1, [.ref o1, .ref o2, .long (bw_q f1 co (bw_nc so T))])), (o1, .inl (cL, 40, .inr (.inl so))), (o2, .inl (cL, 40, .inr (.inl (bw_q f1 go (bw_ng so T go)))))]) [2, 5, 6] rfl
    have hKc := hK.sub (tys' := [(cL, .long)]) [1] rfl
    refine vp_callSi (W.runV (As := [.int (nI k)]) (rest := []) ⟨hx, hb, hml, hown, hT⟩ (c_nearestGate l dC dI o o1 o2 cL so (bw_q f1 go (bw_ng so T go)) (bw_q f1 co (bw_nc so T)) k (by omega)) (cwV 1 hT g_B_104 rfl rfl rfl (by decide +kernel) ⟨Nat.le_of_ble_eq_true rfl, Nat.le_of_ble_eq_true rfl⟩) (bw_pV hPc hKc hN (ci := 1) (q0 := 0) rfl rfl) rfl rfl hl.1 rfl (lv_room (Nat.le_of_ble_eq_true rfl)) dB_lid_12 ⟨Nat.le_of_ble_eq_true rfl, Nat.le_of_ble_eq_true rfl⟩) (fun r_4 hr_4 => ?_)
    rw [hr_4]; clear hr_4
    refine lv_goto (tgt := 19) hx hb dB_lid_15 (by decide) ?_
    have hP9 := hP.sub (ws' := [(x, .inr (2, [.long T, .ref t1, .ref o, .ref q, .ref r, .int 0, .int f2])), (t1, .inl (cI, 40, .inl tc)), (o, .inr (1, [.ref o1, .ref o2, .long (bw_q f1 co (bw_nc so T))])), (q, .inr (1, [.ref q1, .ref q2, .long cb])), (r, .inr (0, [.ref r1])), (o1, .inl (cL, 40, .inr (.inl so))), (o2, .inl (cL, 40, .inr (.inl (bw_q f1 go (bw_ng so T go))))), (q1, .inl (cL, 40, .inr (.inl sb))), (q2, .inl (cL, 40, .inr (.inl gb))), (r1, .inl (cL, 40, .inr (.inl (bw_q f1 bl (bw_nl so sb T go bl)))))]) [0, 1, 2, 3, 4, 5, 6, 7, 8, 9] rfl
    have hD9 := hD.sub (ws' := [(x, .inr (2, [.long T, .ref t1, .ref o, .ref q, .ref r, .int 0, .int f2])), (t1, .inl (cI, 40, .inl tc)), (o, .inr (1, [.ref o1, .ref o2, .long (bw_q f1 co (bw_nc so T))])), (q, .inr (1, [.ref q1, .ref q2, .long cb])), (r, .inr (0, [.ref r1])), (o1, .inl (cL, 40, .inr (.inl so))), (o2, .inl (cL, 40, .inr (.inl (bw_q f1 go (bw_ng so T go))))), (q1, .inl (cL, 40, .inr (.inl sb))), (q2, .inl (cL, 40, .inr (.inl gb))), (r1, .inl (cL, 40, .inr (.inl (bw_q f1 bl (bw_nl so sb T go bl)))))]) [0, 1, 2, 3, 4, 5, 6, 7, 8, 9] (by decide) rfl
    exact W.iret (v := bw_nearA (bw_q f1 go (bw_ng so T go)) k) hx hb hr (fun t9 ht9 hW9 => ⟨⟨_, (), rfl, rfl, by rw [ht9]; exact hP9, by exact hD9⟩, hS.F ht9⟩) hS.2.2 dB_lid_19
set_option maxHeartbeats 4000000 in
set_option maxRecDepth 100000 in
theorem c_meeting0 (l : Launch) (dC : Nat → ClassId) (dI : Nat → Nat → Nat) (x t1 o o1 o2 q q1 q2 r r1 : Nat) (cI cL : ClassId) (T : Int64) (tc : Nat → Int32) (so go : Nat → Int64) (co : Int64) (sb gb : Nat → Int64) (cb : Int64) (bl : Nat → Int64) (f1 f2 : Int32) (b : Int32) (hb9 : ∀ k, k < 40 → ¬ b = nI k) (sz : Nat) : Met l yB_meeting wsB_meeting ({ frames := 1, cells := 0, slots := 0, locals := 20 } : Room) (bw_Wr (dC, dI) [(cI, .int), (cL, .long)] [(x, .inr (2, [.long T, .ref t1, .ref o, .ref q, .ref r, .int f1, .int f2])), (t1, .inl (cI, 40, .inl tc)), (o, .inr (1, [.ref o1, .ref o2, .long co])), (q, .inr (1, [.ref q1, .ref q2, .long cb])), (r, .inr (0, [.ref r1])), (o1, .inl (cL, 40, .inr (.inl so))), (o2, .inl (cL, 40, .inr (.inl go))), (q1, .inl (cL, 40, .inr (.inl sb))), (q2, .inl (cL, 40, .inr (.inl gb))), (r1, .inl (cL, 40, .inr (.inl bl)))] sz [.ref x, .int b]) (va_Qi (S := Unit) (fun r _ => r = (-1 : Int32)) (fun (_ : Unit) t => va_P (dC, dI) vwCl [(x, .inr (2, [.long T, .ref t1, .ref o, .ref q, .ref r, .int f1, .int f2])), (t1, .inl (cI, 40, .inl tc)), (o, .inr (1, [.ref o1, .ref o2, .long co])), (q, .inr (1, [.ref q1, .ref q2, .long cb])), (r, .inr (0, [.ref r1])), (o1, .inl (cL, 40, .inr (.inl so))), (o2, .inl (cL, 40, .inr (.inl go))), (q1, .inl (cL, 40, .inr (.inl sb))), (q2, .inl (cL, 40, .inr (.inl gb))), (r1, .inl (cL, 40, .inr (.inl bl)))] t.heap ∧ va_D (va_A [(x, .inr (2, [.long T, .ref t1, .ref o, .ref q, .ref r, .int f1, .int f2])), (t1, .inl (cI, 40, .inl tc)), (o, .inr (1, [.ref o1, .ref o2, .long co])), (q, .inr (1, [.ref q1, .ref q2, .long cb])), (r, .inr (0, [.ref r1])), (o1, .inl (cL, 40, .inr (.inl so))), (o2, .inl (cL, 40, .inr (.inl go))), (q1, .inl (cL, 40, .inr (.inl sb))), (q2, .inl (cL, 40, .inr (.inl gb))), (r1, .inl (cL, 40, .inr (.inl bl)))] sz) [(x, .inr (2, [.long T, .ref t1, .ref o, .ref q, .ref r, .int f1, .int f2])), (t1, .inl (cI, 40, .inl tc)), (o, .inr (1, [.ref o1, .ref o2, .long co])), (q, .inr (1, [.ref q1, .ref q2, .long cb])), (r, .inr (0, [.ref r1])), (o1, .inl (cL, 40, .inr (.inl so))), (o2, .inl (cL, 40, .inr (.inl go))), (q1, .inl (cL, 40, .inr (.inl sb))), (q2, .inl (cL, 40, .inr (.inl gb))), (r1, .inl (cL, 40, .inr (.inl bl)))]) (va_A [(x, .inr (2, [.long T, .ref t1, .ref o, .ref q, .ref r, .int f1, .int f2])), (t1, .inl (cI, 40, .inl tc)), (o, .inr (1, [.ref o1, .ref o2, .long co])), (q, .inr (1, [.ref q1, .ref q2, .long cb])), (r, .inr (0, [.ref r1])), (o1, .inl (cL, 40, .inr (.inl so))), (o2, .inl (cL, 40, .inr (.inl go))), (q1, .inl (cL, 40, .inr (.inl sb))), (q2, .inl (cL, 40, .inr (.inl gb))), (r1, .inl (cL, 40, .inr (.inl bl)))] sz)) 0 0 (va_A [(x, .inr (2, [.long T, .ref t1, .ref o, .ref q, .ref r, .int f1, .int f2])), (t1, .inl (cI, 40, .inl tc)), (o, .inr (1, [.ref o1, .ref o2, .long co])), (q, .inr (1, [.ref q1, .ref q2, .long cb])), (r, .inr (0, [.ref r1])), (o1, .inl (cL, 40, .inr (.inl so))), (o2, .inl (cL, 40, .inr (.inl go))), (q1, .inl (cL, 40, .inr (.inl sb))), (q2, .inl (cL, 40, .inr (.inl gb))), (r1, .inl (cL, 40, .inr (.inl bl)))] sz) := by
  refine Met.ofW (cc := cB_meeting) (maxL := 2) (ret := (some .int)) (by decide) rfl ?_
  intro p e s m args below meth c s₁ B hml hv
  obtain ⟨rfl, hsz, hP, hK, hN, hD0⟩ := hv
  have hx := B.exec
  have hb := B.bytes
  have hr := B.returns
  have hts := atoms_spec (ws := wsB_meeting) B.pre
  have hT : ∀ w ∈ bwB, w.before _ s = true := fun w h => hts w (List.mem_cons_of_mem _ h)
  have hown : s.vm.findClass RB = some m.cls := findClass_of_methodNamed B.named
  have hlocks := B.notSynchronized
  subst hsz
  have hD := hD0.self (sz := s.heap.size)
  generalize hAe : va_A [(x, .inr (2, [.long T, .ref t1, .ref o, .ref q, .ref r, .int f1, .int f2])), (t1, .inl (cI, 40, .inl tc)), (o, .inr (1, [.ref o1, .ref o2, .long co])), (q, .inr (1, [.ref q1, .ref q2, .long cb])), (r, .inr (0, [.ref r1])), (o1, .inl (cL, 40, .inr (.inl so))), (o2, .inl (cL, 40, .inr (.inl go))), (q1, .inl (cL, 40, .inr (.inl sb))), (q2, .inl (cL, 40, .inr (.inl gb))), (r1, .inl (cL, 40, .inr (.inl bl)))] s.heap.size = A at hD ⊢
  have hA : ∀ q : Nat, s.heap.size ≤ q → A q := fun q h => by rw [← hAe]; exact Or.inr h
  have hS : va_S A s.heap s.heap [] := va_S.rf
  have hP : va_P (dC, dI) vwCl [(x, .inr (2, [.long T, .ref t1, .ref o, .ref q, .ref r, .int f1, .int f2])), (t1, .inl (cI, 40, .inl tc)), (o, .inr (1, [.ref o1, .ref o2, .long co])), (q, .inr (1, [.ref q1, .ref q2, .long cb])), (r, .inr (0, [.ref r1])), (o1, .inl (cL, 40, .inr (.inl so))), (o2, .inl (cL, 40, .inr (.inl go))), (q1, .inl (cL, 40, .inr (.inl sb))), (q2, .inl (cL, 40, .inr (.inl gb))), (r1, .inl (cL, 40, .inr (.inl bl)))] s.heap := hP
  have hl := lv_entry ([.ref x, .int b]) (n := 2) (Nat.le_of_ble_eq_true rfl)
  rw [lg_entry_eq]
  generalize (lg_sl ([.ref x, .int b]) ++ List.replicate (2 - (lg_sl ([.ref x, .int b])).length) Slot.unset).toArray = ls at hl ⊢
  have hl : lv_has ls 2 [(0, .ref x), (1, .int b)] := hl
  refine lv_iload_n hx hb dB_meeting_0 rfl (lv_at hl 1 rfl) ?_
  refine vp_callSi (W.runS (As := [.int b]) (rest := []) ⟨hx, hb, hml, hown, hT⟩ (c_isB0 l b hb9) (cwS 1 hT g_B_41 rfl rfl rfl (by decide +kernel) ⟨Nat.le_of_ble_eq_true rfl, Nat.le_of_ble_eq_true rfl⟩) preEq rfl rfl hl.1 rfl (lv_room (Nat.le_of_ble_eq_true rfl)) dB_meeting_1 ⟨Nat.le_of_ble_eq_true rfl, Nat.le_of_ble_eq_true rfl⟩) (fun r_1 hr_1 => ?_)
  rw [hr_1]; clear hr_1
  refine lv_if_eq (tgt := 18) hx hb dB_meeting_4 (by decide) (fun c_2 => ?_) (fun c_2 => ?_)
  · skip
    refine lv_iconst (v := -1) hx hb dB_meeting_18 (by decide) ?_
    have hP9 := hP.sub (ws' := [(x, .inr (2, [.long T, .ref t1, .ref o, .ref q, .ref r, .int f1, .int f2])), (t1, .inl (cI, 40, .inl tc)), (o, .inr (1, [.ref o1, .ref o2, .long co])), (q, .inr (1, [.ref q1, .ref q2, .long cb])), (r, .inr (0, [.ref r1])), (o1, .inl (cL, 40, .inr (.inl so))), (o2, .inl (cL, 40, .inr (.inl go))), (q1, .inl (cL, 40, .inr (.inl sb))), (q2, .inl (cL, 40, .inr (.inl gb))), (r1, .inl (cL, 40, .inr (.inl bl)))]) [0, 1, 2, 3, 4, 5, 6, 7, 8, 9] rfl
    have hD9 := hD.sub (ws' := [(x, .inr (2, [.long T, .ref t1, .ref o, .ref q, .ref r, .int f1, .int f2])), (t1, .inl (cI, 40, .inl tc)), (o, .inr (1, [.ref o1, .ref o2, .long co])), (q, .inr (1, [.ref q1, .ref q2, .long cb])), (r, .inr (0, [.ref r1])), (o1, .inl (cL, 40, .inr (.inl so))), (o2, .inl (cL, 40, .inr (.inl go))), (q1, .inl (cL, 40, .inr (.inl sb))), (q2, .inl (cL, 40, .inr (.inl gb))), (r1, .inl (cL, 40, .inr (.inl bl)))]) [0, 1, 2, 3, 4, 5, 6, 7, 8, 9] (by decide) rfl
    exact W.iret (v := -1) hx hb hr (fun t9 ht9 hW9 => ⟨⟨_, (), rfl, rfl, by rw [ht9]; exact hP9, by exact hD9⟩, hS.F ht9⟩) hS.2.2 dB_meeting_19
  · skip
    exact absurd rfl c_2
set_option maxHeartbeats 4000000 in
set_option maxRecDepth 100000 in
theorem c_meeting1 (l : Launch) (dC : Nat → ClassId) (dI : Nat → Nat → Nat) (x t1 o o1 o2 q q1 q2 r r1 : Nat) (cI cL : ClassId) (T : Int64) (tc : Nat → Int32) (so go : Nat → Int64) (co : Int64) (sb gb : Nat → Int64) (cb : Int64) (bl : Nat → Int64) (f1 f2 : Int32) (k : Nat) (hk : k < 40) (sz : Nat) : Met l yB_meeting wsB_meeting ({ frames := 5, cells := 0, slots := 0, locals := 120 } : Room) (bw_Wr (dC, dI) [(cI, .int), (cL, .long)] [(x, .inr (2, [.long T, .ref t1, .ref o, .ref q, .ref r, .int f1, .int f2])), (t1, .inl (cI, 40, .inl tc)), (o, .inr (1, [.ref o1, .ref o2, .long co])), (q, .inr (1, [.ref q1, .ref q2, .long cb])), (r, .inr (0, [.ref r1])), (o1, .inl (cL, 40, .inr (.inl so))), (o2, .inl (cL, 40, .inr (.inl go))), (q1, .inl (cL, 40, .inr (.inl sb))), (q2, .inl (cL, 40, .inr (.inl gb))), (r1, .inl (cL, 40, .inr (.inl bl)))] sz [.ref x, .int (nI k)]) (va_Qi (S := Unit) (fun r _ => r = bw_nearA (bw_q f2 gb (bw_mg sb T tc gb)) k) (fun (_ : Unit) t => va_P (dC, dI) vwCl [(x, .inr (2, [.long T, .ref t1, .ref o, .ref q, .ref r, .int f1, .int 0])), (t1, .inl (cI, 40, .inl tc)), (o, .inr (1, [.ref o1, .ref o2, .long co])), (q, .inr (1, [.ref q1, .ref q2, .long (bw_q f2 cb (bw_mc sb T tc))])), (r, .inr (0, [.ref r1])), (o1, .inl (cL, 40, .inr (.inl so))), (o2, .inl (cL, 40, .inr (.inl go))), (q1, .inl (cL, 40, .inr (.inl sb))), (q2, .inl (cL, 40, .inr (.inl (bw_q f2 gb (bw_mg sb T tc gb))))), (r1, .inl (cL, 40, .inr (.inl bl)))] t.heap ∧ va_D (va_A [(x, .inr (2, [.long T, .ref t1, .ref o, .ref q, .ref r, .int f1, .int f2])), (t1, .inl (cI, 40, .inl tc)), (o, .inr (1, [.ref o1, .ref o2, .long co])), (q, .inr (1, [.ref q1, .ref q2, .long cb])), (r, .inr (0, [.ref r1])), (o1, .inl (cL, 40, .inr (.inl so))), (o2, .inl (cL, 40, .inr (.inl go))), (q1, .inl (cL, 40, .inr (.inl sb))), (q2, .inl (cL, 40, .inr (.inl gb))), (r1, .inl (cL, 40, .inr (.inl bl)))] sz) [(x, .inr (2, [.long T, .ref t1, .ref o, .ref q, .ref r, .int f1, .int 0])), (t1, .inl (cI, 40, .inl tc)), (o, .inr (1, [.ref o1, .ref o2, .long co])), (q, .inr (1, [.ref q1, .ref q2, .long (bw_q f2 cb (bw_mc sb T tc))])), (r, .inr (0, [.ref r1])), (o1, .inl (cL, 40, .inr (.inl so))), (o2, .inl (cL, 40, .inr (.inl go))), (q1, .inl (cL, 40, .inr (.inl sb))), (q2, .inl (cL, 40, .inr (.inl (bw_q f2 gb (bw_mg sb T tc gb))))), (r1, .inl (cL, 40, .inr (.inl bl)))]) (va_A [(x, .inr (2, [.long T, .ref t1, .ref o, .ref q, .ref r, .int f1, .int f2])), (t1, .inl (cI, 40, .inl tc)), (o, .inr (1, [.ref o1, .ref o2, .long co])), (q, .inr (1, [.ref q1, .ref q2, .long cb])), (r, .inr (0, [.ref r1])), (o1, .inl (cL, 40, .inr (.inl so))), (o2, .inl (cL, 40, .inr (.inl go))), (q1, .inl (cL, 40, .inr (.inl sb))), (q2, .inl (cL, 40, .inr (.inl gb))), (r1, .inl (cL, 40, .inr (.inl bl)))] sz)) 0 0 (va_A [(x, .inr (2, [.long T, .ref t1, .ref o, .ref q, .ref r, .int f1, .int f2])), (t1, .inl (cI, 40, .inl tc)), (o, .inr (1, [.ref o1, .ref o2, .long co])), (q, .inr (1, [.ref q1, .ref q2, .long cb])), (r, .inr (0, [.ref r1])), (o1, .inl (cL, 40, .inr (.inl so))), (o2, .inl (cL, 40, .inr (.inl go))), (q1, .inl (cL, 40, .inr (.inl sb))), (q2, .inl (cL, 40, .inr (.inl gb))), (r1, .inl (cL, 40, .inr (.inl bl)))] sz) := by
  refine Met.ofW (cc := cB_meeting) (maxL := 2) (ret := (some .int)) (by decide) rfl ?_
  intro p e s m args below meth c s₁ B hml hv
  obtain ⟨rfl, hsz, hP, hK, hN, hD0⟩ := hv
  have hx := B.exec
  have hb := B.bytes
  have hr := B.returns
  have hts := atoms_spec (ws := wsB_meeting) B.pre
  have hT : ∀ w ∈ bwB, w.before _ s = true := fun w h => hts w (List.mem_cons_of_mem _ h)
  have hown : s.vm.findClass RB = some m.cls := findClass_of_methodNamed B.named
  have hlocks := B.notSynchronized
  subst hsz
  have hD := hD0.self (sz := s.heap.size)
  generalize hAe : va_A [(x, .inr (2, [.long T, .ref t1, .ref o, .ref q, .ref r, .int f1, .int f2])), (t1, .inl (cI, 40, .inl tc)), (o, .inr (1, [.ref o1, .ref o2, .long co])), (q, .inr (1, [.ref q1, .ref q2, .long cb])), (r, .inr (0, [.ref r1])), (o1, .inl (cL, 40, .inr (.inl so))), (o2, .inl (cL, 40, .inr (.inl go))), (q1, .inl (cL, 40, .inr (.inl sb))), (q2, .inl (cL, 40, .inr (.inl gb))), (r1, .inl (cL, 40, .inr (.inl bl)))] s.heap.size = A at hD ⊢
  have hA : ∀ q : Nat, s.heap.size ≤ q → A q := fun q h => by rw [← hAe]; exact Or.inr h
  have hS : va_S A s.heap s.heap [] := va_S.rf
  have hP : va_P (dC, dI) vwCl [(x, .inr (2, [.long T, .ref t1, .ref o, .ref q, .ref r, .int f1, .int f2])), (t1, .inl (cI, 40, .inl tc)), (o, .inr (1, [.ref o1, .ref o2, .long co])), (q, .inr (1, [.ref q1, .ref q2, .long cb])), (r, .inr (0, [.ref r1])), (o1, .inl (cL, 40, .inr (.inl so))), (o2, .inl (cL, 40, .inr (.inl go))), (q1, .inl (cL, 40, .inr (.inl sb))), (q2, .inl (cL, 40, .inr (.inl gb))), (r1, .inl (cL, 40, .inr (.inl bl)))] s.heap := hP
  have hl := lv_entry ([.ref x, .int (nI k)]) (n := 2) (Nat.le_of_ble_eq_true rfl)
  rw [lg_entry_eq]
  generalize (lg_sl ([.ref x, .int (nI k)]) ++ List.replicate (2 - (lg_sl ([.ref x, .int (nI k)])).length) Slot.unset).toArray = ls at hl ⊢
  have hl : lv_has ls 2 [(0, .ref x), (1, .int (nI k))] := hl
  refine lv_iload_n hx hb dB_meeting_0 rfl (lv_at hl 1 rfl) ?_
  refine vp_callSi (W.runS (As := [.int (nI k)]) (rest := []) ⟨hx, hb, hml, hown, hT⟩ (c_isB1 l k (by omega)) (cwS 1 hT g_B_41 rfl rfl rfl (by decide +kernel) ⟨Nat.le_of_ble_eq_true rfl, Nat.le_of_ble_eq_true rfl⟩) preEq rfl rfl hl.1 rfl (lv_room (Nat.le_of_ble_eq_true rfl)) dB_meeting_1 ⟨Nat.le_of_ble_eq_true rfl, Nat.le_of_ble_eq_true rfl⟩) (fun r_1 hr_1 => ?_)
  rw [hr_1]; clear hr_1
  refine lv_if_eq (tgt := 18) hx hb dB_meeting_4 (by decide) (fun c_2 => ?_) (fun c_2 => ?_)
  · skip
    exact absurd c_2 (by decide)
  · skip
    refine lv_aload_n hx hb dB_meeting_7 rfl (lv_at hl 0 rfl) ?_
    have hPc := hP.sub (ws' := [(x, .inr (2, [.long T, .ref t1, .ref o, .ref q, .ref r, .int f1, .int f2])), (t1, .inl (cI, 40, .inl tc)), (o, .inr (1, [.ref o1, .ref o2, .long co])), (q, .inr (1, [.ref q1, .ref q2, .long cb])), (r, .inr (0, [.ref r1])), (o1, .inl (cL, 40, .inr (.inl so))), (o2, .inl (cL, 40, .inr (.inl go))), (q1, .inl (cL, 40, .inr (.inl sb))), (q2, .inl (cL, 40, .inr (.inl gb))), (r1, .inl (cL, 40, .inr (.inl bl)))]) [0, 1, 2, 3, 4, 5, 6, 7, 8, 9] rfl
    have hDc := hD.sub (ws' := [(x, .inr (2, [.long T, .ref t1, .ref o, .ref q, .ref r, .int f1, .int f2])), (t1, .inl (cI, 40, .inl tc)), (o, .inr (1, [.ref o1, .ref o2, .long co])), (q, .inr (1, [.ref q1, .ref q2, .long cb])), (r, .inr (0, [.ref r1])), (o1, .inl (cL, 40, .inr (.inl so))), (o2, .inl (cL, 40, .inr (.inl go))), (q1, .inl (cL, 40, .inr (.inl sb))), (q2, .inl (cL, 40, .inr (.inl gb))), (r1, .inl (cL, 40, .inr (.inl bl)))]) [0, 1, 2, 3, 4, 5, 6, 7, 8, 9] (by decide) rfl
    have hKc := hK.sub (tys' := [(cI, .int), (cL, .long)]) [0, 1] rfl
    have hFc := va_free (wc := [(x, .inr (2, [.long T, .ref t1, .ref o, .ref q, .ref r, .int f1, .int f2])), (t1, .inl (cI, 40, .inl tc)), (o, .inr (1, [.ref o1, .ref o2, .long co])), (q, .inr (1, [.ref q1, .ref q2, .long cb])), (r, .inr (0, [.ref r1])), (o1, .inl (cL, 40, .inr (.inl so))), (o2, .inl (cL, 40, .inr (.inl go))), (q1, .inl (cL, 40, .inr (.inl sb))), (q2, .inl (cL, 40, .inr (.inl gb))), (r1, .inl (cL, 40, .inr (.inl bl)))]) hD hS hA [0, 1, 2, 3, 4, 5, 6, 7, 8, 9] rfl
    refine va_callr (va_runV (As := []) (rest := []) ⟨hx, hb, hml, hown, hT⟩ (c_freshBackward l dC dI x t1 o o1 o2 q q1 q2 r r1 cI cL T tc so go co sb gb cb bl f1 f2 s.heap.size) (cwV 0 hT g_B_86 rfl rfl rfl (by decide +kernel) ⟨Nat.le_of_ble_eq_true rfl, Nat.le_of_ble_eq_true rfl⟩) (bw_qV hPc hKc hN hDc (ci := 2) (q0 := 0) rfl rfl) rfl rfl hl.1 rfl (lv_room (Nat.le_of_ble_eq_true rfl)) dB_meeting_8 ⟨Nat.le_of_ble_eq_true rfl, Nat.le_of_ble_eq_true rfl⟩) hS (fun q _ h => hFc q h) hFc (fun u_3 ra_3 t_3 H1 locs ht hvm hw_3 hB hz1 hk1 hS => ?_)
    obtain ⟨era, hP1, hD1⟩ := hB
    rw [ht] at hP1
    obtain ⟨hP, hD⟩ := va_join (wr := []) (w1 := [(x, .inr (2, [.long T, .ref t1, .ref o, .ref q, .ref r, .int f1, .int 0])), (t1, .inl (cI, 40, .inl tc)), (o, .inr (1, [.ref o1, .ref o2, .long co])), (q, .inr (1, [.ref q1, .ref q2, .long (bw_q f2 cb (bw_mc sb T tc))])), (r, .inr (0, [.ref r1])), (o1, .inl (cL, 40, .inr (.inl so))), (o2, .inl (cL, 40, .inr (.inl go))), (q1, .inl (cL, 40, .inr (.inl sb))), (q2, .inl (cL, 40, .inr (.inl (bw_q f2 gb (bw_mg sb T tc gb))))), (r1, .inl (cL, 40, .inr (.inl bl)))]) hP hD [0, 1, 2, 3, 4, 5, 6, 7, 8, 9] [] rfl rfl (by decide) (by decide) hk1 hFc hP1 hD1
    generalize H1 = H at hP hS ⊢
    have hP : va_P (dC, dI) vwCl [(x, .inr (2, [.long T, .ref t1, .ref o, .ref q, .ref r, .int f1, .int 0])), (t1, .inl (cI, 40, .inl tc)), (o, .inr (1, [.ref o1, .ref o2, .long co])), (q, .inr (1, [.ref q1, .ref q2, .long (bw_q f2 cb (bw_mc sb T tc))])), (r, .inr (0, [.ref r1])), (o1, .inl (cL, 40, .inr (.inl so))), (o2, .inl (cL, 40, .inr (.inl go))), (q1, .inl (cL, 40, .inr (.inl sb))), (q2, .inl (cL, 40, .inr (.inl (bw_q f2 gb (bw_mg sb T tc gb))))), (r1, .inl (cL, 40, .inr (.inl bl)))] H := hP
    have hD : va_D A [(x, .inr (2, [.long T, .ref t1, .ref o, .ref q, .ref r, .int f1, .int 0])), (t1, .inl (cI, 40, .inl tc)), (o, .inr (1, [.ref o1, .ref o2, .long co])), (q, .inr (1, [.ref q1, .ref q2, .long (bw_q f2 cb (bw_mc sb T tc))])), (r, .inr (0, [.ref r1])), (o1, .inl (cL, 40, .inr (.inl so))), (o2, .inl (cL, 40, .inr (.inl go))), (q1, .inl (cL, 40, .inr (.inl sb))), (q2, .inl (cL, 40, .inr (.inl (bw_q f2 gb (bw_mg sb T tc gb))))), (r1, .inl (cL, 40, .inr (.inl bl)))] := hD
    rw [era]; clear era
    refine lv_iload_n hx hb dB_meeting_11 rfl (lv_at hl 1 rfl) ?_
    have hPc := hP.sub (ws' := [(q, .inr (1, [.ref q1, .ref q2, .long (bw_q f2 cb (bw_mc sb T tc))])), (q1, .inl (cL, 40, .inr (.inl sb))), (q2, .inl (cL, 40, .inr (.inl (bw_q f2 gb (bw_mg sb T tc gb)))))]) [3, 7, 8] rfl
    have hKc := hK.sub (tys' := [(cL, .long)]) [1] rfl
    refine vp_callSi (W.runV (As := [.int (nI k)]) (rest := []) ⟨hx, hb, hml, hown, hT⟩ (c_nearestGate l dC dI q q1 q2 cL sb (bw_q f2 gb (bw_mg sb T tc gb)) (bw_q f2 cb (bw_mc sb T tc)) k (by omega)) (cwV 1 hT g_B_104 rfl rfl rfl (by decide +kernel) ⟨Nat.le_of_ble_eq_true rfl, Nat.le_of_ble_eq_true rfl⟩) (bw_pV hPc hKc hN (ci := 1) (q0 := 0) rfl rfl) rfl rfl hl.1 rfl (lv_room (Nat.le_of_ble_eq_true rfl)) dB_meeting_12 ⟨Nat.le_of_ble_eq_true rfl, Nat.le_of_ble_eq_true rfl⟩) (fun r_4 hr_4 => ?_)
    rw [hr_4]; clear hr_4
    refine lv_goto (tgt := 19) hx hb dB_meeting_15 (by decide) ?_
    have hP9 := hP.sub (ws' := [(x, .inr (2, [.long T, .ref t1, .ref o, .ref q, .ref r, .int f1, .int 0])), (t1, .inl (cI, 40, .inl tc)), (o, .inr (1, [.ref o1, .ref o2, .long co])), (q, .inr (1, [.ref q1, .ref q2, .long (bw_q f2 cb (bw_mc sb T tc))])), (r, .inr (0, [.ref r1])), (o1, .inl (cL, 40, .inr (.inl so))), (o2, .inl (cL, 40, .inr (.inl go))), (q1, .inl (cL, 40, .inr (.inl sb))), (q2, .inl (cL, 40, .inr (.inl (bw_q f2 gb (bw_mg sb T tc gb))))), (r1, .inl (cL, 40, .inr (.inl bl)))]) [0, 1, 2, 3, 4, 5, 6, 7, 8, 9] rfl
    have hD9 := hD.sub (ws' := [(x, .inr (2, [.long T, .ref t1, .ref o, .ref q, .ref r, .int f1, .int 0])), (t1, .inl (cI, 40, .inl tc)), (o, .inr (1, [.ref o1, .ref o2, .long co])), (q, .inr (1, [.ref q1, .ref q2, .long (bw_q f2 cb (bw_mc sb T tc))])), (r, .inr (0, [.ref r1])), (o1, .inl (cL, 40, .inr (.inl so))), (o2, .inl (cL, 40, .inr (.inl go))), (q1, .inl (cL, 40, .inr (.inl sb))), (q2, .inl (cL, 40, .inr (.inl (bw_q f2 gb (bw_mg sb T tc gb))))), (r1, .inl (cL, 40, .inr (.inl bl)))]) [0, 1, 2, 3, 4, 5, 6, 7, 8, 9] (by decide) rfl
    exact W.iret (v := bw_nearA (bw_q f2 gb (bw_mg sb T tc gb)) k) hx hb hr (fun t9 ht9 hW9 => ⟨⟨_, (), rfl, rfl, by rw [ht9]; exact hP9, by exact hD9⟩, hS.F ht9⟩) hS.2.2 dB_meeting_19
set_option maxHeartbeats 4000000 in
set_option maxRecDepth 100000 in
theorem c_set0 (l : Launch) (dC : Nat → ClassId) (dI : Nat → Nat → Nat) (x t1 o o1 o2 q q1 q2 r r1 : Nat) (cI cL : ClassId) (T : Int64) (tc : Nat → Int32) (so go : Nat → Int64) (co : Int64) (sb gb : Nat → Int64) (cb : Int64) (bl : Nat → Int64) (f1 f2 : Int32) (wh : Int32) (b : Int32) (hb9 : ∀ k, k < 40 → ¬ b = nI k) (sz : Nat) : Met l yB_set wsB_set ({ frames := 1, cells := 0, slots := 0, locals := 20 } : Room) (bw_Wr (dC, dI) [(cI, .int), (cL, .long)] [(x, .inr (2, [.long T, .ref t1, .ref o, .ref q, .ref r, .int f1, .int f2])), (t1, .inl (cI, 40, .inl tc)), (o, .inr (1, [.ref o1, .ref o2, .long co])), (q, .inr (1, [.ref q1, .ref q2, .long cb])), (r, .inr (0, [.ref r1])), (o1, .inl (cL, 40, .inr (.inl so))), (o2, .inl (cL, 40, .inr (.inl go))), (q1, .inl (cL, 40, .inr (.inl sb))), (q2, .inl (cL, 40, .inr (.inl gb))), (r1, .inl (cL, 40, .inr (.inl bl)))] sz [.ref x, .int wh, .int b]) (va_Ql (S := Unit) (fun r _ => r = 0) (fun (_ : Unit) t => va_P (dC, dI) vwCl [(x, .inr (2, [.long T, .ref t1, .ref o, .ref q, .ref r, .int f1, .int f2])), (t1, .inl (cI, 40, .inl tc)), (o, .inr (1, [.ref o1, .ref o2, .long co])), (q, .inr (1, [.ref q1, .ref q2, .long cb])), (r, .inr (0, [.ref r1])), (o1, .inl (cL, 40, .inr (.inl so))), (o2, .inl (cL, 40, .inr (.inl go))), (q1, .inl (cL, 40, .inr (.inl sb))), (q2, .inl (cL, 40, .inr (.inl gb))), (r1, .inl (cL, 40, .inr (.inl bl)))] t.heap ∧ va_D (va_A [(x, .inr (2, [.long T, .ref t1, .ref o, .ref q, .ref r, .int f1, .int f2])), (t1, .inl (cI, 40, .inl tc)), (o, .inr (1, [.ref o1, .ref o2, .long co])), (q, .inr (1, [.ref q1, .ref q2, .long cb])), (r, .inr (0, [.ref r1])), (o1, .inl (cL, 40, .inr (.inl so))), (o2, .inl (cL, 40, .inr (.inl go))), (q1, .inl (cL, 40, .inr (.inl sb))), (q2, .inl (cL, 40, .inr (.inl gb))), (r1, .inl (cL, 40, .inr (.inl bl)))] sz) [(x, .inr (2, [.long T, .ref t1, .ref o, .ref q, .ref r, .int f1, .int f2])), (t1, .inl (cI, 40, .inl tc)), (o, .inr (1, [.ref o1, .ref o2, .long co])), (q, .inr (1, [.ref q1, .ref q2, .long cb])), (r, .inr (0, [.ref r1])), (o1, .inl (cL, 40, .inr (.inl so))), (o2, .inl (cL, 40, .inr (.inl go))), (q1, .inl (cL, 40, .inr (.inl sb))), (q2, .inl (cL, 40, .inr (.inl gb))), (r1, .inl (cL, 40, .inr (.inl bl)))]) (va_A [(x, .inr (2, [.long T, .ref t1, .ref o, .ref q, .ref r, .int f1, .int f2])), (t1, .inl (cI, 40, .inl tc)), (o, .inr (1, [.ref o1, .ref o2, .long co])), (q, .inr (1, [.ref q1, .ref q2, .long cb])), (r, .inr (0, [.ref r1])), (o1, .inl (cL, 40, .inr (.inl so))), (o2, .inl (cL, 40, .inr (.inl go))), (q1, .inl (cL, 40, .inr (.inl sb))), (q2, .inl (cL, 40, .inr (.inl gb))), (r1, .inl (cL, 40, .inr (.inl bl)))] sz)) 0 0 (va_A [(x, .inr (2, [.long T, .ref t1, .ref o, .ref q, .ref r, .int f1, .int f2])), (t1, .inl (cI, 40, .inl tc)), (o, .inr (1, [.ref o1, .ref o2, .long co])), (q, .inr (1, [.ref q1, .ref q2, .long cb])), (r, .inr (0, [.ref r1])), (o1, .inl (cL, 40, .inr (.inl so))), (o2, .inl (cL, 40, .inr (.inl go))), (q1, .inl (cL, 40, .inr (.inl sb))), (q2, .inl (cL, 40, .inr (.inl gb))), (r1, .inl (cL, 40, .inr (.inl bl)))] sz) := by
  refine Met.ofW (cc := cB_set) (maxL := 3) (ret := (some .long)) (by decide) rfl ?_
  intro p e s m args below meth c s₁ B hml hv
  obtain ⟨rfl, hsz, hP, hK, hN, hD0⟩ := hv
  have hx := B.exec
  have hb := B.bytes
  have hr := B.returns
  have hts := atoms_spec (ws := wsB_set) B.pre
  have hT : ∀ w ∈ bwB, w.before _ s = true := fun w h => hts w (List.mem_cons_of_mem _ h)
  have hown : s.vm.findClass RB = some m.cls := findClass_of_methodNamed B.named
  have hlocks := B.notSynchronized
  subst hsz
  have hD := hD0.self (sz := s.heap.size)
  generalize hAe : va_A [(x, .inr (2, [.long T, .ref t1, .ref o, .ref q, .ref r, .int f1, .int f2])), (t1, .inl (cI, 40, .inl tc)), (o, .inr (1, [.ref o1, .ref o2, .long co])), (q, .inr (1, [.ref q1, .ref q2, .long cb])), (r, .inr (0, [.ref r1])), (o1, .inl (cL, 40, .inr (.inl so))), (o2, .inl (cL, 40, .inr (.inl go))), (q1, .inl (cL, 40, .inr (.inl sb))), (q2, .inl (cL, 40, .inr (.inl gb))), (r1, .inl (cL, 40, .inr (.inl bl)))] s.heap.size = A at hD ⊢
  have hA : ∀ q : Nat, s.heap.size ≤ q → A q := fun q h => by rw [← hAe]; exact Or.inr h
  have hS : va_S A s.heap s.heap [] := va_S.rf
  have hP : va_P (dC, dI) vwCl [(x, .inr (2, [.long T, .ref t1, .ref o, .ref q, .ref r, .int f1, .int f2])), (t1, .inl (cI, 40, .inl tc)), (o, .inr (1, [.ref o1, .ref o2, .long co])), (q, .inr (1, [.ref q1, .ref q2, .long cb])), (r, .inr (0, [.ref r1])), (o1, .inl (cL, 40, .inr (.inl so))), (o2, .inl (cL, 40, .inr (.inl go))), (q1, .inl (cL, 40, .inr (.inl sb))), (q2, .inl (cL, 40, .inr (.inl gb))), (r1, .inl (cL, 40, .inr (.inl bl)))] s.heap := hP
  have hl := lv_entry ([.ref x, .int wh, .int b]) (n := 3) (Nat.le_of_ble_eq_true rfl)
  rw [lg_entry_eq]
  generalize (lg_sl ([.ref x, .int wh, .int b]) ++ List.replicate (3 - (lg_sl ([.ref x, .int wh, .int b])).length) Slot.unset).toArray = ls at hl ⊢
  have hl : lv_has ls 3 [(0, .ref x), (1, .int wh), (2, .int b)] := hl
  refine lv_iload_n hx hb dB_set_0 rfl (lv_at hl 2 rfl) ?_
  refine vp_callSi (W.runS (As := [.int b]) (rest := []) ⟨hx, hb, hml, hown, hT⟩ (c_isB0 l b hb9) (cwS 1 hT g_B_41 rfl rfl rfl (by decide +kernel) ⟨Nat.le_of_ble_eq_true rfl, Nat.le_of_ble_eq_true rfl⟩) preEq rfl rfl hl.1 rfl (lv_room (Nat.le_of_ble_eq_true rfl)) dB_set_1 ⟨Nat.le_of_ble_eq_true rfl, Nat.le_of_ble_eq_true rfl⟩) (fun r_1 hr_1 => ?_)
  rw [hr_1]; clear hr_1
  refine lv_if_ne (tgt := 9) hx hb dB_set_4 (by decide) (fun c_2 => ?_) (fun c_2 => ?_)
  · skip
    exact absurd rfl c_2
  · skip
    refine lv_lconst (v := 0) hx hb dB_set_7 (by decide) ?_
    have hP9 := hP.sub (ws' := [(x, .inr (2, [.long T, .ref t1, .ref o, .ref q, .ref r, .int f1, .int f2])), (t1, .inl (cI, 40, .inl tc)), (o, .inr (1, [.ref o1, .ref o2, .long co])), (q, .inr (1, [.ref q1, .ref q2, .long cb])), (r, .inr (0, [.ref r1])), (o1, .inl (cL, 40, .inr (.inl so))), (o2, .inl (cL, 40, .inr (.inl go))), (q1, .inl (cL, 40, .inr (.inl sb))), (q2, .inl (cL, 40, .inr (.inl gb))), (r1, .inl (cL, 40, .inr (.inl bl)))]) [0, 1, 2, 3, 4, 5, 6, 7, 8, 9] rfl
    have hD9 := hD.sub (ws' := [(x, .inr (2, [.long T, .ref t1, .ref o, .ref q, .ref r, .int f1, .int f2])), (t1, .inl (cI, 40, .inl tc)), (o, .inr (1, [.ref o1, .ref o2, .long co])), (q, .inr (1, [.ref q1, .ref q2, .long cb])), (r, .inr (0, [.ref r1])), (o1, .inl (cL, 40, .inr (.inl so))), (o2, .inl (cL, 40, .inr (.inl go))), (q1, .inl (cL, 40, .inr (.inl sb))), (q2, .inl (cL, 40, .inr (.inl gb))), (r1, .inl (cL, 40, .inr (.inl bl)))]) [0, 1, 2, 3, 4, 5, 6, 7, 8, 9] (by decide) rfl
    exact W.lret (v := 0) hx hb hr (fun t9 ht9 hW9 => ⟨⟨_, (), rfl, rfl, by rw [ht9]; exact hP9, by exact hD9⟩, hS.F ht9⟩) hS.2.2 dB_set_8
set_option maxHeartbeats 4000000 in
set_option maxRecDepth 100000 in
theorem c_setX (l : Launch) (dC : Nat → ClassId) (dI : Nat → Nat → Nat) (x t1 o o1 o2 q q1 q2 r r1 : Nat) (cI cL : ClassId) (T : Int64) (tc : Nat → Int32) (so go : Nat → Int64) (co : Int64) (sb gb : Nat → Int64) (cb : Int64) (bl : Nat → Int64) (f1 f2 : Int32) (wh : Int32) (hw9 : wh.toInt < 0 ∨ 5 < wh.toInt) (k : Nat) (hk : k < 40) (sz : Nat) : Met l yB_set wsB_set ({ frames := 1, cells := 0, slots := 0, locals := 20 } : Room) (bw_Wr (dC, dI) [(cI, .int), (cL, .long)] [(x, .inr (2, [.long T, .ref t1, .ref o, .ref q, .ref r, .int f1, .int f2])), (t1, .inl (cI, 40, .inl tc)), (o, .inr (1, [.ref o1, .ref o2, .long co])), (q, .inr (1, [.ref q1, .ref q2, .long cb])), (r, .inr (0, [.ref r1])), (o1, .inl (cL, 40, .inr (.inl so))), (o2, .inl (cL, 40, .inr (.inl go))), (q1, .inl (cL, 40, .inr (.inl sb))), (q2, .inl (cL, 40, .inr (.inl gb))), (r1, .inl (cL, 40, .inr (.inl bl)))] sz [.ref x, .int wh, .int (nI k)]) (va_Ql (S := Unit) (fun r _ => r = 0) (fun (_ : Unit) t => va_P (dC, dI) vwCl [(x, .inr (2, [.long T, .ref t1, .ref o, .ref q, .ref r, .int f1, .int f2])), (t1, .inl (cI, 40, .inl tc)), (o, .inr (1, [.ref o1, .ref o2, .long co])), (q, .inr (1, [.ref q1, .ref q2, .long cb])), (r, .inr (0, [.ref r1])), (o1, .inl (cL, 40, .inr (.inl so))), (o2, .inl (cL, 40, .inr (.inl go))), (q1, .inl (cL, 40, .inr (.inl sb))), (q2, .inl (cL, 40, .inr (.inl gb))), (r1, .inl (cL, 40, .inr (.inl bl)))] t.heap ∧ va_D (va_A [(x, .inr (2, [.long T, .ref t1, .ref o, .ref q, .ref r, .int f1, .int f2])), (t1, .inl (cI, 40, .inl tc)), (o, .inr (1, [.ref o1, .ref o2, .long co])), (q, .inr (1, [.ref q1, .ref q2, .long cb])), (r, .inr (0, [.ref r1])), (o1, .inl (cL, 40, .inr (.inl so))), (o2, .inl (cL, 40, .inr (.inl go))), (q1, .inl (cL, 40, .inr (.inl sb))), (q2, .inl (cL, 40, .inr (.inl gb))), (r1, .inl (cL, 40, .inr (.inl bl)))] sz) [(x, .inr (2, [.long T, .ref t1, .ref o, .ref q, .ref r, .int f1, .int f2])), (t1, .inl (cI, 40, .inl tc)), (o, .inr (1, [.ref o1, .ref o2, .long co])), (q, .inr (1, [.ref q1, .ref q2, .long cb])), (r, .inr (0, [.ref r1])), (o1, .inl (cL, 40, .inr (.inl so))), (o2, .inl (cL, 40, .inr (.inl go))), (q1, .inl (cL, 40, .inr (.inl sb))), (q2, .inl (cL, 40, .inr (.inl gb))), (r1, .inl (cL, 40, .inr (.inl bl)))]) (va_A [(x, .inr (2, [.long T, .ref t1, .ref o, .ref q, .ref r, .int f1, .int f2])), (t1, .inl (cI, 40, .inl tc)), (o, .inr (1, [.ref o1, .ref o2, .long co])), (q, .inr (1, [.ref q1, .ref q2, .long cb])), (r, .inr (0, [.ref r1])), (o1, .inl (cL, 40, .inr (.inl so))), (o2, .inl (cL, 40, .inr (.inl go))), (q1, .inl (cL, 40, .inr (.inl sb))), (q2, .inl (cL, 40, .inr (.inl gb))), (r1, .inl (cL, 40, .inr (.inl bl)))] sz)) 0 0 (va_A [(x, .inr (2, [.long T, .ref t1, .ref o, .ref q, .ref r, .int f1, .int f2])), (t1, .inl (cI, 40, .inl tc)), (o, .inr (1, [.ref o1, .ref o2, .long co])), (q, .inr (1, [.ref q1, .ref q2, .long cb])), (r, .inr (0, [.ref r1])), (o1, .inl (cL, 40, .inr (.inl so))), (o2, .inl (cL, 40, .inr (.inl go))), (q1, .inl (cL, 40, .inr (.inl sb))), (q2, .inl (cL, 40, .inr (.inl gb))), (r1, .inl (cL, 40, .inr (.inl bl)))] sz) := by
  refine Met.ofW (cc := cB_set) (maxL := 3) (ret := (some .long)) (by decide) rfl ?_
  intro p e s m args below meth c s₁ B hml hv
  obtain ⟨rfl, hsz, hP, hK, hN, hD0⟩ := hv
  have hx := B.exec
  have hb := B.bytes
  have hr := B.returns
  have hts := atoms_spec (ws := wsB_set) B.pre
  have hT : ∀ w ∈ bwB, w.before _ s = true := fun w h => hts w (List.mem_cons_of_mem _ h)
  have hown : s.vm.findClass RB = some m.cls := findClass_of_methodNamed B.named
  have hlocks := B.notSynchronized
  subst hsz
  have hD := hD0.self (sz := s.heap.size)
  generalize hAe : va_A [(x, .inr (2, [.long T, .ref t1, .ref o, .ref q, .ref r, .int f1, .int f2])), (t1, .inl (cI, 40, .inl tc)), (o, .inr (1, [.ref o1, .ref o2, .long co])), (q, .inr (1, [.ref q1, .ref q2, .long cb])), (r, .inr (0, [.ref r1])), (o1, .inl (cL, 40, .inr (.inl so))), (o2, .inl (cL, 40, .inr (.inl go))), (q1, .inl (cL, 40, .inr (.inl sb))), (q2, .inl (cL, 40, .inr (.inl gb))), (r1, .inl (cL, 40, .inr (.inl bl)))] s.heap.size = A at hD ⊢
  have hA : ∀ q : Nat, s.heap.size ≤ q → A q := fun q h => by rw [← hAe]; exact Or.inr h
  have hS : va_S A s.heap s.heap [] := va_S.rf
  have hP : va_P (dC, dI) vwCl [(x, .inr (2, [.long T, .ref t1, .ref o, .ref q, .ref r, .int f1, .int f2])), (t1, .inl (cI, 40, .inl tc)), (o, .inr (1, [.ref o1, .ref o2, .long co])), (q, .inr (1, [.ref q1, .ref q2, .long cb])), (r, .inr (0, [.ref r1])), (o1, .inl (cL, 40, .inr (.inl so))), (o2, .inl (cL, 40, .inr (.inl go))), (q1, .inl (cL, 40, .inr (.inl sb))), (q2, .inl (cL, 40, .inr (.inl gb))), (r1, .inl (cL, 40, .inr (.inl bl)))] s.heap := hP
  have hl := lv_entry ([.ref x, .int wh, .int (nI k)]) (n := 3) (Nat.le_of_ble_eq_true rfl)
  rw [lg_entry_eq]
  generalize (lg_sl ([.ref x, .int wh, .int (nI k)]) ++ List.replicate (3 - (lg_sl ([.ref x, .int wh, .int (nI k)])).length) Slot.unset).toArray = ls at hl ⊢
  have hl : lv_has ls 3 [(0, .ref x), (1, .int wh), (2, .int (nI k))] := hl
  refine lv_iload_n hx hb dB_set_0 rfl (lv_at hl 2 rfl) ?_
  refine vp_callSi (W.runS (As := [.int (nI k)]) (rest := []) ⟨hx, hb, hml, hown, hT⟩ (c_isB1 l k (by omega)) (cwS 1 hT g_B_41 rfl rfl rfl (by decide +kernel) ⟨Nat.le_of_ble_eq_true rfl, Nat.le_of_ble_eq_true rfl⟩) preEq rfl rfl hl.1 rfl (lv_room (Nat.le_of_ble_eq_true rfl)) dB_set_1 ⟨Nat.le_of_ble_eq_true rfl, Nat.le_of_ble_eq_true rfl⟩) (fun r_1 hr_1 => ?_)
  rw [hr_1]; clear hr_1
  refine lv_if_ne (tgt := 9) hx hb dB_set_4 (by decide) (fun c_2 => ?_) (fun c_2 => ?_)
  · skip
    refine lv_iload_n hx hb dB_set_9 rfl (lv_at hl 1 rfl) ?_
    refine lv_tableOut (tgt := 102) hx hb dB_set_10 hw9 (by decide) ?_
    refine lv_lconst (v := 0) hx hb dB_set_102 (by decide) ?_
    have hP9 := hP.sub (ws' := [(x, .inr (2, [.long T, .ref t1, .ref o, .ref q, .ref r, .int f1, .int f2])), (t1, .inl (cI, 40, .inl tc)), (o, .inr (1, [.ref o1, .ref o2, .long co])), (q, .inr (1, [.ref q1, .ref q2, .long cb])), (r, .inr (0, [.ref r1])), (o1, .inl (cL, 40, .inr (.inl so))), (o2, .inl (cL, 40, .inr (.inl go))), (q1, .inl (cL, 40, .inr (.inl sb))), (q2, .inl (cL, 40, .inr (.inl gb))), (r1, .inl (cL, 40, .inr (.inl bl)))]) [0, 1, 2, 3, 4, 5, 6, 7, 8, 9] rfl
    have hD9 := hD.sub (ws' := [(x, .inr (2, [.long T, .ref t1, .ref o, .ref q, .ref r, .int f1, .int f2])), (t1, .inl (cI, 40, .inl tc)), (o, .inr (1, [.ref o1, .ref o2, .long co])), (q, .inr (1, [.ref q1, .ref q2, .long cb])), (r, .inr (0, [.ref r1])), (o1, .inl (cL, 40, .inr (.inl so))), (o2, .inl (cL, 40, .inr (.inl go))), (q1, .inl (cL, 40, .inr (.inl sb))), (q2, .inl (cL, 40, .inr (.inl gb))), (r1, .inl (cL, 40, .inr (.inl bl)))]) [0, 1, 2, 3, 4, 5, 6, 7, 8, 9] (by decide) rfl
    exact W.lret (v := 0) hx hb hr (fun t9 ht9 hW9 => ⟨⟨_, (), rfl, rfl, by rw [ht9]; exact hP9, by exact hD9⟩, hS.F ht9⟩) hS.2.2 dB_set_103
  · skip
    exact absurd c_2 (by decide)
set_option maxHeartbeats 4000000 in
set_option maxRecDepth 100000 in
theorem c_set_0 (l : Launch) (dC : Nat → ClassId) (dI : Nat → Nat → Nat) (x t1 o o1 o2 q q1 q2 r r1 : Nat) (cI cL : ClassId) (T : Int64) (tc : Nat → Int32) (so go : Nat → Int64) (co : Int64) (sb gb : Nat → Int64) (cb : Int64) (bl : Nat → Int64) (f1 f2 : Int32) (k : Nat) (hk : k < 40) (sz : Nat) : Met l yB_set wsB_set ({ frames := 6, cells := 0, slots := 0, locals := 141 } : Room) (bw_Wr (dC, dI) [(cI, .int), (cL, .long)] [(x, .inr (2, [.long T, .ref t1, .ref o, .ref q, .ref r, .int f1, .int f2])), (t1, .inl (cI, 40, .inl tc)), (o, .inr (1, [.ref o1, .ref o2, .long co])), (q, .inr (1, [.ref q1, .ref q2, .long cb])), (r, .inr (0, [.ref r1])), (o1, .inl (cL, 40, .inr (.inl so))), (o2, .inl (cL, 40, .inr (.inl go))), (q1, .inl (cL, 40, .inr (.inl sb))), (q2, .inl (cL, 40, .inr (.inl gb))), (r1, .inl (cL, 40, .inr (.inl bl)))] sz [.ref x, .int 0, .int (nI k)]) (va_Ql (S := Unit) (fun r _ => r = bw_gates (bw_q f1 go (bw_ng so T go)) k) (fun (_ : Unit) t => va_P (dC, dI) vwCl [(x, .inr (2, [.long T, .ref t1, .ref o, .ref q, .ref r, .int 0, .int f2])), (t1, .inl (cI, 40, .inl tc)), (o, .inr (1, [.ref o1, .ref o2, .long (bw_q f1 co (bw_nc so T))])), (q, .inr (1, [.ref q1, .ref q2, .long cb])), (r, .inr (0, [.ref r1])), (o1, .inl (cL, 40, .inr (.inl so))), (o2, .inl (cL, 40, .inr (.inl (bw_q f1 go (bw_ng so T go))))), (q1, .inl (cL, 40, .inr (.inl sb))), (q2, .inl (cL, 40, .inr (.inl gb))), (r1, .inl (cL, 40, .inr (.inl (bw_q f1 bl (bw_nl so sb T go bl)))))] t.heap ∧ va_D (va_A [(x, .inr (2, [.long T, .ref t1, .ref o, .ref q, .ref r, .int f1, .int f2])), (t1, .inl (cI, 40, .inl tc)), (o, .inr (1, [.ref o1, .ref o2, .long co])), (q, .inr (1, [.ref q1, .ref q2, .long cb])), (r, .inr (0, [.ref r1])), (o1, .inl (cL, 40, .inr (.inl so))), (o2, .inl (cL, 40, .inr (.inl go))), (q1, .inl (cL, 40, .inr (.inl sb))), (q2, .inl (cL, 40, .inr (.inl gb))), (r1, .inl (cL, 40, .inr (.inl bl)))] sz) [(x, .inr (2, [.long T, .ref t1, .ref o, .ref q, .ref r, .int 0, .int f2])), (t1, .inl (cI, 40, .inl tc)), (o, .inr (1, [.ref o1, .ref o2, .long (bw_q f1 co (bw_nc so T))])), (q, .inr (1, [.ref q1, .ref q2, .long cb])), (r, .inr (0, [.ref r1])), (o1, .inl (cL, 40, .inr (.inl so))), (o2, .inl (cL, 40, .inr (.inl (bw_q f1 go (bw_ng so T go))))), (q1, .inl (cL, 40, .inr (.inl sb))), (q2, .inl (cL, 40, .inr (.inl gb))), (r1, .inl (cL, 40, .inr (.inl (bw_q f1 bl (bw_nl so sb T go bl)))))]) (va_A [(x, .inr (2, [.long T, .ref t1, .ref o, .ref q, .ref r, .int f1, .int f2])), (t1, .inl (cI, 40, .inl tc)), (o, .inr (1, [.ref o1, .ref o2, .long co])), (q, .inr (1, [.ref q1, .ref q2, .long cb])), (r, .inr (0, [.ref r1])), (o1, .inl (cL, 40, .inr (.inl so))), (o2, .inl (cL, 40, .inr (.inl go))), (q1, .inl (cL, 40, .inr (.inl sb))), (q2, .inl (cL, 40, .inr (.inl gb))), (r1, .inl (cL, 40, .inr (.inl bl)))] sz)) 0 0 (va_A [(x, .inr (2, [.long T, .ref t1, .ref o, .ref q, .ref r, .int f1, .int f2])), (t1, .inl (cI, 40, .inl tc)), (o, .inr (1, [.ref o1, .ref o2, .long co])), (q, .inr (1, [.ref q1, .ref q2, .long cb])), (r, .inr (0, [.ref r1])), (o1, .inl (cL, 40, .inr (.inl so))), (o2, .inl (cL, 40, .inr (.inl go))), (q1, .inl (cL, 40, .inr (.inl sb))), (q2, .inl (cL, 40, .inr (.inl gb))), (r1, .inl (cL, 40, .inr (.inl bl)))] sz) := by
  refine Met.ofW (cc := cB_set) (maxL := 3) (ret := (some .long)) (by decide) rfl ?_
  intro p e s m args below meth c s₁ B hml hv
  obtain ⟨rfl, hsz, hP, hK, hN, hD0⟩ := hv
  have hx := B.exec
  have hb := B.bytes
  have hr := B.returns
  have hts := atoms_spec (ws := wsB_set) B.pre
  have hT : ∀ w ∈ bwB, w.before _ s = true := fun w h => hts w (List.mem_cons_of_mem _ h)
  have hown : s.vm.findClass RB = some m.cls := findClass_of_methodNamed B.named
  have hlocks := B.notSynchronized
  subst hsz
  have hD := hD0.self (sz := s.heap.size)
  generalize hAe : va_A [(x, .inr (2, [.long T, .ref t1, .ref o, .ref q, .ref r, .int f1, .int f2])), (t1, .inl (cI, 40, .inl tc)), (o, .inr (1, [.ref o1, .ref o2, .long co])), (q, .inr (1, [.ref q1, .ref q2, .long cb])), (r, .inr (0, [.ref r1])), (o1, .inl (cL, 40, .inr (.inl so))), (o2, .inl (cL, 40, .inr (.inl go))), (q1, .inl (cL, 40, .inr (.inl sb))), (q2, .inl (cL, 40, .inr (.inl gb))), (r1, .inl (cL, 40, .inr (.inl bl)))] s.heap.size = A at hD ⊢
  have hA : ∀ q : Nat, s.heap.size ≤ q → A q := fun q h => by rw [← hAe]; exact Or.inr h
  have hS : va_S A s.heap s.heap [] := va_S.rf
  have hP : va_P (dC, dI) vwCl [(x, .inr (2, [.long T, .ref t1, .ref o, .ref q, .ref r, .int f1, .int f2])), (t1, .inl (cI, 40, .inl tc)), (o, .inr (1, [.ref o1, .ref o2, .long co])), (q, .inr (1, [.ref q1, .ref q2, .long cb])), (r, .inr (0, [.ref r1])), (o1, .inl (cL, 40, .inr (.inl so))), (o2, .inl (cL, 40, .inr (.inl go))), (q1, .inl (cL, 40, .inr (.inl sb))), (q2, .inl (cL, 40, .inr (.inl gb))), (r1, .inl (cL, 40, .inr (.inl bl)))] s.heap := hP
  have hl := lv_entry ([.ref x, .int 0, .int (nI k)]) (n := 3) (Nat.le_of_ble_eq_true rfl)
  rw [lg_entry_eq]
  generalize (lg_sl ([.ref x, .int 0, .int (nI k)]) ++ List.replicate (3 - (lg_sl ([.ref x, .int 0, .int (nI k)])).length) Slot.unset).toArray = ls at hl ⊢
  have hl : lv_has ls 3 [(0, .ref x), (1, .int 0), (2, .int (nI k))] := hl
  refine lv_iload_n hx hb dB_set_0 rfl (lv_at hl 2 rfl) ?_
  refine vp_callSi (W.runS (As := [.int (nI k)]) (rest := []) ⟨hx, hb, hml, hown, hT⟩ (c_isB1 l k (by omega)) (cwS 1 hT g_B_41 rfl rfl rfl (by decide +kernel) ⟨Nat.le_of_ble_eq_true rfl, Nat.le_of_ble_eq_true rfl⟩) preEq rfl rfl hl.1 rfl (lv_room (Nat.le_of_ble_eq_true rfl)) dB_set_1 ⟨Nat.le_of_ble_eq_true rfl, Nat.le_of_ble_eq_true rfl⟩) (fun r_1 hr_1 => ?_)
  rw [hr_1]; clear hr_1
  refine lv_if_ne (tgt := 9) hx hb dB_set_4 (by decide) (fun c_2 => ?_) (fun c_2 => ?_)
  · skip
    refine lv_iload_n hx hb dB_set_9 rfl (lv_at hl 1 rfl) ?_
    refine lv_tableIn (off := 38) (tgt := 48) hx hb dB_set_10 (by decide) (by decide) (by decide) (by decide) ?_
    refine lv_aload_n hx hb dB_set_48 rfl (lv_at hl 0 rfl) ?_
    have hPc := hP.sub (ws' := [(x, .inr (2, [.long T, .ref t1, .ref o, .ref q, .ref r, .int f1, .int f2])), (t1, .inl (cI, 40, .inl tc)), (o, .inr (1, [.ref o1, .ref o2, .long co])), (q, .inr (1, [.ref q1, .ref q2, .long cb])), (r, .inr (0, [.ref r1])), (o1, .inl (cL, 40, .inr (.inl so))), (o2, .inl (cL, 40, .inr (.inl go))), (q1, .inl (cL, 40, .inr (.inl sb))), (q2, .inl (cL, 40, .inr (.inl gb))), (r1, .inl (cL, 40, .inr (.inl bl)))]) [0, 1, 2, 3, 4, 5, 6, 7, 8, 9] rfl
    have hDc := hD.sub (ws' := [(x, .inr (2, [.long T, .ref t1, .ref o, .ref q, .ref r, .int f1, .int f2])), (t1, .inl (cI, 40, .inl tc)), (o, .inr (1, [.ref o1, .ref o2, .long co])), (q, .inr (1, [.ref q1, .ref q2, .long cb])), (r, .inr (0, [.ref r1])), (o1, .inl (cL, 40, .inr (.inl so))), (o2, .inl (cL, 40, .inr (.inl go))), (q1, .inl (cL, 40, .inr (.inl sb))), (q2, .inl (cL, 40, .inr (.inl gb))), (r1, .inl (cL, 40, .inr (.inl bl)))]) [0, 1, 2, 3, 4, 5, 6, 7, 8, 9] (by decide) rfl
    have hKc := hK.sub (tys' := [(cI, .int), (cL, .long)]) [0, 1] rfl
    have hFc := va_free (wc := [(x, .inr (2, [.long T, .ref t1, .ref o, .ref q, .ref r, .int f1, .int f2])), (t1, .inl (cI, 40, .inl tc)), (o, .inr (1, [.ref o1, .ref o2, .long co])), (q, .inr (1, [.ref q1, .ref q2, .long cb])), (r, .inr (0, [.ref r1])), (o1, .inl (cL, 40, .inr (.inl so))), (o2, .inl (cL, 40, .inr (.inl go))), (q1, .inl (cL, 40, .inr (.inl sb))), (q2, .inl (cL, 40, .inr (.inl gb))), (r1, .inl (cL, 40, .inr (.inl bl)))]) hD hS hA [0, 1, 2, 3, 4, 5, 6, 7, 8, 9] rfl
    refine va_callr (va_runV (As := []) (rest := []) ⟨hx, hb, hml, hown, hT⟩ (c_freshOnward l dC dI x t1 o o1 o2 q q1 q2 r r1 cI cL T tc so go co sb gb cb bl f1 f2 s.heap.size) (cwV 0 hT g_B_78 rfl rfl rfl (by decide +kernel) ⟨Nat.le_of_ble_eq_true rfl, Nat.le_of_ble_eq_true rfl⟩) (bw_qV hPc hKc hN hDc (ci := 2) (q0 := 0) rfl rfl) rfl rfl hl.1 rfl (lv_room (Nat.le_of_ble_eq_true rfl)) dB_set_49 ⟨Nat.le_of_ble_eq_true rfl, Nat.le_of_ble_eq_true rfl⟩) hS (fun q _ h => hFc q h) hFc (fun u_3 ra_3 t_3 H1 locs ht hvm hw_3 hB hz1 hk1 hS => ?_)
    obtain ⟨era, hP1, hD1⟩ := hB
    rw [ht] at hP1
    obtain ⟨hP, hD⟩ := va_join (wr := []) (w1 := [(x, .inr (2, [.long T, .ref t1, .ref o, .ref q, .ref r, .int 0, .int f2])), (t1, .inl (cI, 40, .inl tc)), (o, .inr (1, [.ref o1, .ref o2, .long (bw_q f1 co (bw_nc so T))])), (q, .inr (1, [.ref q1, .ref q2, .long cb])), (r, .inr (0, [.ref r1])), (o1, .inl (cL, 40, .inr (.inl so))), (o2, .inl (cL, 40, .inr (.inl (bw_q f1 go (bw_ng so T go))))), (q1, .inl (cL, 40, .inr (.inl sb))), (q2, .inl (cL, 40, .inr (.inl gb))), (r1, .inl (cL, 40, .inr (.inl (bw_q f1 bl (bw_nl so sb T go bl)))))]) hP hD [0, 1, 2, 3, 4, 5, 6, 7, 8, 9] [] rfl rfl (by decide) (by decide) hk1 hFc hP1 hD1
    generalize H1 = H at hP hS ⊢
    have hP : va_P (dC, dI) vwCl [(x, .inr (2, [.long T, .ref t1, .ref o, .ref q, .ref r, .int 0, .int f2])), (t1, .inl (cI, 40, .inl tc)), (o, .inr (1, [.ref o1, .ref o2, .long (bw_q f1 co (bw_nc so T))])), (q, .inr (1, [.ref q1, .ref q2, .long cb])), (r, .inr (0, [.ref r1])), (o1, .inl (cL, 40, .inr (.inl so))), (o2, .inl (cL, 40, .inr (.inl (bw_q f1 go (bw_ng so T go))))), (q1, .inl (cL, 40, .inr (.inl sb))), (q2, .inl (cL, 40, .inr (.inl gb))), (r1, .inl (cL, 40, .inr (.inl (bw_q f1 bl (bw_nl so sb T go bl)))))] H := hP
    have hD : va_D A [(x, .inr (2, [.long T, .ref t1, .ref o, .ref q, .ref r, .int 0, .int f2])), (t1, .inl (cI, 40, .inl tc)), (o, .inr (1, [.ref o1, .ref o2, .long (bw_q f1 co (bw_nc so T))])), (q, .inr (1, [.ref q1, .ref q2, .long cb])), (r, .inr (0, [.ref r1])), (o1, .inl (cL, 40, .inr (.inl so))), (o2, .inl (cL, 40, .inr (.inl (bw_q f1 go (bw_ng so T go))))), (q1, .inl (cL, 40, .inr (.inl sb))), (q2, .inl (cL, 40, .inr (.inl gb))), (r1, .inl (cL, 40, .inr (.inl (bw_q f1 bl (bw_nl so sb T go bl)))))] := hD
    rw [era]; clear era
    refine lv_iload_n hx hb dB_set_52 rfl (lv_at hl 2 rfl) ?_
    have hPc := hP.sub (ws' := [(o, .inr (1, [.ref o1, .ref o2, .long (bw_q f1 co (bw_nc so T))])), (o1, .inl (cL, 40, .inr (.inl so))), (o2, .inl (cL, 40, .inr (.inl (bw_q f1 go (bw_ng so T go)))))]) [2, 5, 6] rfl
    have hKc := hK.sub (tys' := [(cL, .long)]) [1] rfl
    refine vp_callSl (W.runV (As := [.int (nI k)]) (rest := []) ⟨hx, hb, hml, hown, hT⟩ (c_gates l dC dI o o1 o2 cL so (bw_q f1 go (bw_ng so T go)) (bw_q f1 co (bw_nc so T)) k (by omega)) (cwV 1 hT g_B_108 rfl rfl rfl (by decide +kernel) ⟨Nat.le_of_ble_eq_true rfl, Nat.le_of_ble_eq_true rfl⟩) (bw_pV hPc hKc hN (ci := 1) (q0 := 0) rfl rfl) rfl rfl hl.1 rfl (lv_room (Nat.le_of_ble_eq_true rfl)) dB_set_53 ⟨Nat.le_of_ble_eq_true rfl, Nat.le_of_ble_eq_true rfl⟩) (fun r_4 hr_4 => ?_)
    rw [hr_4]; clear hr_4
    have hP9 := hP.sub (ws' := [(x, .inr (2, [.long T, .ref t1, .ref o, .ref q, .ref r, .int 0, .int f2])), (t1, .inl (cI, 40, .inl tc)), (o, .inr (1, [.ref o1, .ref o2, .long (bw_q f1 co (bw_nc so T))])), (q, .inr (1, [.ref q1, .ref q2, .long cb])), (r, .inr (0, [.ref r1])), (o1, .inl (cL, 40, .inr (.inl so))), (o2, .inl (cL, 40, .inr (.inl (bw_q f1 go (bw_ng so T go))))), (q1, .inl (cL, 40, .inr (.inl sb))), (q2, .inl (cL, 40, .inr (.inl gb))), (r1, .inl (cL, 40, .inr (.inl (bw_q f1 bl (bw_nl so sb T go bl)))))]) [0, 1, 2, 3, 4, 5, 6, 7, 8, 9] rfl
    have hD9 := hD.sub (ws' := [(x, .inr (2, [.long T, .ref t1, .ref o, .ref q, .ref r, .int 0, .int f2])), (t1, .inl (cI, 40, .inl tc)), (o, .inr (1, [.ref o1, .ref o2, .long (bw_q f1 co (bw_nc so T))])), (q, .inr (1, [.ref q1, .ref q2, .long cb])), (r, .inr (0, [.ref r1])), (o1, .inl (cL, 40, .inr (.inl so))), (o2, .inl (cL, 40, .inr (.inl (bw_q f1 go (bw_ng so T go))))), (q1, .inl (cL, 40, .inr (.inl sb))), (q2, .inl (cL, 40, .inr (.inl gb))), (r1, .inl (cL, 40, .inr (.inl (bw_q f1 bl (bw_nl so sb T go bl)))))]) [0, 1, 2, 3, 4, 5, 6, 7, 8, 9] (by decide) rfl
    exact W.lret (v := bw_gates (bw_q f1 go (bw_ng so T go)) k) hx hb hr (fun t9 ht9 hW9 => ⟨⟨_, (), rfl, rfl, by rw [ht9]; exact hP9, by exact hD9⟩, hS.F ht9⟩) hS.2.2 dB_set_56
  · skip
    exact absurd c_2 (by decide)
set_option maxHeartbeats 4000000 in
set_option maxRecDepth 100000 in
theorem c_set_1 (l : Launch) (dC : Nat → ClassId) (dI : Nat → Nat → Nat) (x t1 o o1 o2 q q1 q2 r r1 : Nat) (cI cL : ClassId) (T : Int64) (tc : Nat → Int32) (so go : Nat → Int64) (co : Int64) (sb gb : Nat → Int64) (cb : Int64) (bl : Nat → Int64) (f1 f2 : Int32) (k : Nat) (hk : k < 40) (sz : Nat) : Met l yB_set wsB_set ({ frames := 5, cells := 0, slots := 0, locals := 120 } : Room) (bw_Wr (dC, dI) [(cI, .int), (cL, .long)] [(x, .inr (2, [.long T, .ref t1, .ref o, .ref q, .ref r, .int f1, .int f2])), (t1, .inl (cI, 40, .inl tc)), (o, .inr (1, [.ref o1, .ref o2, .long co])), (q, .inr (1, [.ref q1, .ref q2, .long cb])), (r, .inr (0, [.ref r1])), (o1, .inl (cL, 40, .inr (.inl so))), (o2, .inl (cL, 40, .inr (.inl go))), (q1, .inl (cL, 40, .inr (.inl sb))), (q2, .inl (cL, 40, .inr (.inl gb))), (r1, .inl (cL, 40, .inr (.inl bl)))] sz [.ref x, .int 1, .int (nI k)]) (va_Ql (S := Unit) (fun r _ => r = bw_gates (bw_q f2 gb (bw_mg sb T tc gb)) k) (fun (_ : Unit) t => va_P (dC, dI) vwCl [(x, .inr (2, [.long T, .ref t1, .ref o, .ref q, .ref r, .int f1, .int 0])), (t1, .inl (cI, 40, .inl tc)), (o, .inr (1, [.ref o1, .ref o2, .long co])), (q, .inr (1, [.ref q1, .ref q2, .long (bw_q f2 cb (bw_mc sb T tc))])), (r, .inr (0, [.ref r1])), (o1, .inl (cL, 40, .inr (.inl so))), (o2, .inl (cL, 40, .inr (.inl go))), (q1, .inl (cL, 40, .inr (.inl sb))), (q2, .inl (cL, 40, .inr (.inl (bw_q f2 gb (bw_mg sb T tc gb))))), (r1, .inl (cL, 40, .inr (.inl bl)))] t.heap ∧ va_D (va_A [(x, .inr (2, [.long T, .ref t1, .ref o, .ref q, .ref r, .int f1, .int f2])), (t1, .inl (cI, 40, .inl tc)), (o, .inr (1, [.ref o1, .ref o2, .long co])), (q, .inr (1, [.ref q1, .ref q2, .long cb])), (r, .inr (0, [.ref r1])), (o1, .inl (cL, 40, .inr (.inl so))), (o2, .inl (cL, 40, .inr (.inl go))), (q1, .inl (cL, 40, .inr (.inl sb))), (q2, .inl (cL, 40, .inr (.inl gb))), (r1, .inl (cL, 40, .inr (.inl bl)))] sz) [(x, .inr (2, [.long T, .ref t1, .ref o, .ref q, .ref r, .int f1, .int 0])), (t1, .inl (cI, 40, .inl tc)), (o, .inr (1, [.ref o1, .ref o2, .long co])), (q, .inr (1, [.ref q1, .ref q2, .long (bw_q f2 cb (bw_mc sb T tc))])), (r, .inr (0, [.ref r1])), (o1, .inl (cL, 40, .inr (.inl so))), (o2, .inl (cL, 40, .inr (.inl go))), (q1, .inl (cL, 40, .inr (.inl sb))), (q2, .inl (cL, 40, .inr (.inl (bw_q f2 gb (bw_mg sb T tc gb))))), (r1, .inl (cL, 40, .inr (.inl bl)))]) (va_A [(x, .inr (2, [.long T, .ref t1, .ref o, .ref q, .ref r, .int f1, .int f2])), (t1, .inl (cI, 40, .inl tc)), (o, .inr (1, [.ref o1, .ref o2, .long co])), (q, .inr (1, [.ref q1, .ref q2, .long cb])), (r, .inr (0, [.ref r1])), (o1, .inl (cL, 40, .inr (.inl so))), (o2, .inl (cL, 40, .inr (.inl go))), (q1, .inl (cL, 40, .inr (.inl sb))), (q2, .inl (cL, 40, .inr (.inl gb))), (r1, .inl (cL, 40, .inr (.inl bl)))] sz)) 0 0 (va_A [(x, .inr (2, [.long T, .ref t1, .ref o, .ref q, .ref r, .int f1, .int f2])), (t1, .inl (cI, 40, .inl tc)), (o, .inr (1, [.ref o1, .ref o2, .long co])), (q, .inr (1, [.ref q1, .ref q2, .long cb])), (r, .inr (0, [.ref r1])), (o1, .inl (cL, 40, .inr (.inl so))), (o2, .inl (cL, 40, .inr (.inl go))), (q1, .inl (cL, 40, .inr (.inl sb))), (q2, .inl (cL, 40, .inr (.inl gb))), (r1, .inl (cL, 40, .inr (.inl bl)))] sz) := by
  refine Met.ofW (cc := cB_set) (maxL := 3) (ret := (some .long)) (by decide) rfl ?_
  intro p e s m args below meth c s₁ B hml hv
  obtain ⟨rfl, hsz, hP, hK, hN, hD0⟩ := hv
  have hx := B.exec
  have hb := B.bytes
  have hr := B.returns
  have hts := atoms_spec (ws := wsB_set) B.pre
  have hT : ∀ w ∈ bwB, w.before _ s = true := fun w h => hts w (List.mem_cons_of_mem _ h)
  have hown : s.vm.findClass RB = some m.cls := findClass_of_methodNamed B.named
  have hlocks := B.notSynchronized
  subst hsz
  have hD := hD0.self (sz := s.heap.size)
  generalize hAe : va_A [(x, .inr (2, [.long T, .ref t1, .ref o, .ref q, .ref r, .int f1, .int f2])), (t1, .inl (cI, 40, .inl tc)), (o, .inr (1, [.ref o1, .ref o2, .long co])), (q, .inr (1, [.ref q1, .ref q2, .long cb])), (r, .inr (0, [.ref r1])), (o1, .inl (cL, 40, .inr (.inl so))), (o2, .inl (cL, 40, .inr (.inl go))), (q1, .inl (cL, 40, .inr (.inl sb))), (q2, .inl (cL, 40, .inr (.inl gb))), (r1, .inl (cL, 40, .inr (.inl bl)))] s.heap.size = A at hD ⊢
  have hA : ∀ q : Nat, s.heap.size ≤ q → A q := fun q h => by rw [← hAe]; exact Or.inr h
  have hS : va_S A s.heap s.heap [] := va_S.rf
  have hP : va_P (dC, dI) vwCl [(x, .inr (2, [.long T, .ref t1, .ref o, .ref q, .ref r, .int f1, .int f2])), (t1, .inl (cI, 40, .inl tc)), (o, .inr (1, [.ref o1, .ref o2, .long co])), (q, .inr (1, [.ref q1, .ref q2, .long cb])), (r, .inr (0, [.ref r1])), (o1, .inl (cL, 40, .inr (.inl so))), (o2, .inl (cL, 40, .inr (.inl go))), (q1, .inl (cL, 40, .inr (.inl sb))), (q2, .inl (cL, 40, .inr (.inl gb))), (r1, .inl (cL, 40, .inr (.inl bl)))] s.heap := hP
  have hl := lv_entry ([.ref x, .int 1, .int (nI k)]) (n := 3) (Nat.le_of_ble_eq_true rfl)
  rw [lg_entry_eq]
  generalize (lg_sl ([.ref x, .int 1, .int (nI k)]) ++ List.replicate (3 - (lg_sl ([.ref x, .int 1, .int (nI k)])).length) Slot.unset).toArray = ls at hl ⊢
  have hl : lv_has ls 3 [(0, .ref x), (1, .int 1), (2, .int (nI k))] := hl
  refine lv_iload_n hx hb dB_set_0 rfl (lv_at hl 2 rfl) ?_
  refine vp_callSi (W.runS (As := [.int (nI k)]) (rest := []) ⟨hx, hb, hml, hown, hT⟩ (c_isB1 l k (by omega)) (cwS 1 hT g_B_41 rfl rfl rfl (by decide +kernel) ⟨Nat.le_of_ble_eq_true rfl, Nat.le_of_ble_eq_true rfl⟩) preEq rfl rfl hl.1 rfl (lv_room (Nat.le_of_ble_eq_true rfl)) dB_set_1 ⟨Nat.le_of_ble_eq_true rfl, Nat.le_of_ble_eq_true rfl⟩) (fun r_1 hr_1 => ?_)
  rw [hr_1]; clear hr_1
  refine lv_if_ne (tgt := 9) hx hb dB_set_4 (by decide) (fun c_2 => ?_) (fun c_2 => ?_)
  · skip
    refine lv_iload_n hx hb dB_set_9 rfl (lv_at hl 1 rfl) ?_
    refine lv_tableIn (off := 47) (tgt := 57) hx hb dB_set_10 (by decide) (by decide) (by decide) (by decide) ?_
    refine lv_aload_n hx hb dB_set_57 rfl (lv_at hl 0 rfl) ?_
    have hPc := hP.sub (ws' := [(x, .inr (2, [.long T, .ref t1, .ref o, .ref q, .ref r, .int f1, .int f2])), (t1, .inl (cI, 40, .inl tc)), (o, .inr (1, [.ref o1, .ref o2, .long co])), (q, .inr (1, [.ref q1, .ref q2, .long cb])), (r, .inr (0, [.ref r1])), (o1, .inl (cL, 40, .inr (.inl so))), (o2, .inl (cL, 40, .inr (.inl go))), (q1, .inl (cL, 40, .inr (.inl sb))), (q2, .inl (cL, 40, .inr (.inl gb))), (r1, .inl (cL, 40, .inr (.inl bl)))]) [0, 1, 2, 3, 4, 5, 6, 7, 8, 9] rfl
    have hDc := hD.sub (ws' := [(x, .inr (2, [.long T, .ref t1, .ref o, .ref q, .ref r, .int f1, .int f2])), (t1, .inl (cI, 40, .inl tc)), (o, .inr (1, [.ref o1, .ref o2, .long co])), (q, .inr (1, [.ref q1, .ref q2, .long cb])), (r, .inr (0, [.ref r1])), (o1, .inl (cL, 40, .inr (.inl so))), (o2, .inl (cL, 40, .inr (.inl go))), (q1, .inl (cL, 40, .inr (.inl sb))), (q2, .inl (cL, 40, .inr (.inl gb))), (r1, .inl (cL, 40, .inr (.inl bl)))]) [0, 1, 2, 3, 4, 5, 6, 7, 8, 9] (by decide) rfl
    have hKc := hK.sub (tys' := [(cI, .int), (cL, .long)]) [0, 1] rfl
    have hFc := va_free (wc := [(x, .inr (2, [.long T, .ref t1, .ref o, .ref q, .ref r, .int f1, .int f2])), (t1, .inl (cI, 40, .inl tc)), (o, .inr (1, [.ref o1, .ref o2, .long co])), (q, .inr (1, [.ref q1, .ref q2, .long cb])), (r, .inr (0, [.ref r1])), (o1, .inl (cL, 40, .inr (.inl so))), (o2, .inl (cL, 40, .inr (.inl go))), (q1, .inl (cL, 40, .inr (.inl sb))), (q2, .inl (cL, 40, .inr (.inl gb))), (r1, .inl (cL, 40, .inr (.inl bl)))]) hD hS hA [0, 1, 2, 3, 4, 5, 6, 7, 8, 9] rfl
    refine va_callr (va_runV (As := []) (rest := []) ⟨hx, hb, hml, hown, hT⟩ (c_freshBackward l dC dI x t1 o o1 o2 q q1 q2 r r1 cI cL T tc so go co sb gb cb bl f1 f2 s.heap.size) (cwV 0 hT g_B_86 rfl rfl rfl (by decide +kernel) ⟨Nat.le_of_ble_eq_true rfl, Nat.le_of_ble_eq_true rfl⟩) (bw_qV hPc hKc hN hDc (ci := 2) (q0 := 0) rfl rfl) rfl rfl hl.1 rfl (lv_room (Nat.le_of_ble_eq_true rfl)) dB_set_58 ⟨Nat.le_of_ble_eq_true rfl, Nat.le_of_ble_eq_true rfl⟩) hS (fun q _ h => hFc q h) hFc (fun u_3 ra_3 t_3 H1 locs ht hvm hw_3 hB hz1 hk1 hS => ?_)
    obtain ⟨era, hP1, hD1⟩ := hB
    rw [ht] at hP1
    obtain ⟨hP, hD⟩ := va_join (wr := []) (w1 := [(x, .inr (2, [.long T, .ref t1, .ref o, .ref q, .ref r, .int f1, .int 0])), (t1, .inl (cI, 40, .inl tc)), (o, .inr (1, [.ref o1, .ref o2, .long co])), (q, .inr (1, [.ref q1, .ref q2, .long (bw_q f2 cb (bw_mc sb T tc))])), (r, .inr (0, [.ref r1])), (o1, .inl (cL, 40, .inr (.inl so))), (o2, .inl (cL, 40, .inr (.inl go))), (q1, .inl (cL, 40, .inr (.inl sb))), (q2, .inl (cL, 40, .inr (.inl (bw_q f2 gb (bw_mg sb T tc gb))))), (r1, .inl (cL, 40, .inr (.inl bl)))]) hP hD [0, 1, 2, 3, 4, 5, 6, 7, 8, 9] [] rfl rfl (by decide) (by decide) hk1 hFc hP1 hD1
    generalize H1 = H at hP hS ⊢
    have hP : va_P (dC, dI) vwCl [(x, .inr (2, [.long T, .ref t1, .ref o, .ref q, .ref r, .int f1, .int 0])), (t1, .inl (cI, 40, .inl tc)), (o, .inr (1, [.ref o1, .ref o2, .long co])), (q, .inr (1, [.ref q1, .ref q2, .long (bw_q f2 cb (bw_mc sb T tc))])), (r, .inr (0, [.ref r1])), (o1, .inl (cL, 40, .inr (.inl so))), (o2, .inl (cL, 40, .inr (.inl go))), (q1, .inl (cL, 40, .inr (.inl sb))), (q2, .inl (cL, 40, .inr (.inl (bw_q f2 gb (bw_mg sb T tc gb))))), (r1, .inl (cL, 40, .inr (.inl bl)))] H := hP
    have hD : va_D A [(x, .inr (2, [.long T, .ref t1, .ref o, .ref q, .ref r, .int f1, .int 0])), (t1, .inl (cI, 40, .inl tc)), (o, .inr (1, [.ref o1, .ref o2, .long co])), (q, .inr (1, [.ref q1, .ref q2, .long (bw_q f2 cb (bw_mc sb T tc))])), (r, .inr (0, [.ref r1])), (o1, .inl (cL, 40, .inr (.inl so))), (o2, .inl (cL, 40, .inr (.inl go))), (q1, .inl (cL, 40, .inr (.inl sb))), (q2, .inl (cL, 40, .inr (.inl (bw_q f2 gb (bw_mg sb T tc gb))))), (r1, .inl (cL, 40, .inr (.inl bl)))] := hD
    rw [era]; clear era
    refine lv_iload_n hx hb dB_set_61 rfl (lv_at hl 2 rfl) ?_
    have hPc := hP.sub (ws' := [(q, .inr (1, [.ref q1, .ref q2, .long (bw_q f2 cb (bw_mc sb T tc))])), (q1, .inl (cL, 40, .inr (.inl sb))), (q2, .inl (cL, 40, .inr (.inl (bw_q f2 gb (bw_mg sb T tc gb)))))]) [3, 7, 8] rfl
    have hKc := hK.sub (tys' := [(cL, .long)]) [1] rfl
    refine vp_callSl (W.runV (As := [.int (nI k)]) (rest := []) ⟨hx, hb, hml, hown, hT⟩ (c_gates l dC dI q q1 q2 cL sb (bw_q f2 gb (bw_mg sb T tc gb)) (bw_q f2 cb (bw_mc sb T tc)) k (by omega)) (cwV 1 hT g_B_108 rfl rfl rfl (by decide +kernel) ⟨Nat.le_of_ble_eq_true rfl, Nat.le_of_ble_eq_true rfl⟩) (bw_pV hPc hKc hN (ci := 1) (q0 := 0) rfl rfl) rfl rfl hl.1 rfl (lv_room (Nat.le_of_ble_eq_true rfl)) dB_set_62 ⟨Nat.le_of_ble_eq_true rfl, Nat.le_of_ble_eq_true rfl⟩) (fun r_4 hr_4 => ?_)
    rw [hr_4]; clear hr_4
    have hP9 := hP.sub (ws' := [(x, .inr (2, [.long T, .ref t1, .ref o, .ref q, .ref r, .int f1, .int 0])), (t1, .inl (cI, 40, .inl tc)), (o, .inr (1, [.ref o1, .ref o2, .long co])), (q, .inr (1, [.ref q1, .ref q2, .long (bw_q f2 cb (bw_mc sb T tc))])), (r, .inr (0, [.ref r1])), (o1, .inl (cL, 40, .inr (.inl so))), (o2, .inl (cL, 40, .inr (.inl go))), (q1, .inl (cL, 40, .inr (.inl sb))), (q2, .inl (cL, 40, .inr (.inl (bw_q f2 gb (bw_mg sb T tc gb))))), (r1, .inl (cL, 40, .inr (.inl bl)))]) [0, 1, 2, 3, 4, 5, 6, 7, 8, 9] rfl
    have hD9 := hD.sub (ws' := [(x, .inr (2, [.long T, .ref t1, .ref o, .ref q, .ref r, .int f1, .int 0])), (t1, .inl (cI, 40, .inl tc)), (o, .inr (1, [.ref o1, .ref o2, .long co])), (q, .inr (1, [.ref q1, .ref q2, .long (bw_q f2 cb (bw_mc sb T tc))])), (r, .inr (0, [.ref r1])), (o1, .inl (cL, 40, .inr (.inl so))), (o2, .inl (cL, 40, .inr (.inl go))), (q1, .inl (cL, 40, .inr (.inl sb))), (q2, .inl (cL, 40, .inr (.inl (bw_q f2 gb (bw_mg sb T tc gb))))), (r1, .inl (cL, 40, .inr (.inl bl)))]) [0, 1, 2, 3, 4, 5, 6, 7, 8, 9] (by decide) rfl
    exact W.lret (v := bw_gates (bw_q f2 gb (bw_mg sb T tc gb)) k) hx hb hr (fun t9 ht9 hW9 => ⟨⟨_, (), rfl, rfl, by rw [ht9]; exact hP9, by exact hD9⟩, hS.F ht9⟩) hS.2.2 dB_set_65
  · skip
    exact absurd c_2 (by decide)
set_option maxHeartbeats 4000000 in
set_option maxRecDepth 100000 in
theorem c_set_2 (l : Launch) (dC : Nat → ClassId) (dI : Nat → Nat → Nat) (x t1 o o1 o2 q q1 q2 r r1 : Nat) (cI cL : ClassId) (T : Int64) (tc : Nat → Int32) (so go : Nat → Int64) (co : Int64) (sb gb : Nat → Int64) (cb : Int64) (bl : Nat → Int64) (f1 f2 : Int32) (k : Nat) (hk : k < 40) (sz : Nat) : Met l yB_set wsB_set ({ frames := 6, cells := 0, slots := 0, locals := 141 } : Room) (bw_Wr (dC, dI) [(cI, .int), (cL, .long)] [(x, .inr (2, [.long T, .ref t1, .ref o, .ref q, .ref r, .int f1, .int f2])), (t1, .inl (cI, 40, .inl tc)), (o, .inr (1, [.ref o1, .ref o2, .long co])), (q, .inr (1, [.ref q1, .ref q2, .long cb])), (r, .inr (0, [.ref r1])), (o1, .inl (cL, 40, .inr (.inl so))), (o2, .inl (cL, 40, .inr (.inl go))), (q1, .inl (cL, 40, .inr (.inl sb))), (q2, .inl (cL, 40, .inr (.inl gb))), (r1, .inl (cL, 40, .inr (.inl bl)))] sz [.ref x, .int 2, .int (nI k)]) (va_Ql (S := Unit) (fun r _ => r = (bw_q f1 bl (bw_nl so sb T go bl)) k) (fun (_ : Unit) t => va_P (dC, dI) vwCl [(x, .inr (2, [.long T, .ref t1, .ref o, .ref q, .ref r, .int 0, .int f2])), (t1, .inl (cI, 40, .inl tc)), (o, .inr (1, [.ref o1, .ref o2, .long (bw_q f1 co (bw_nc so T))])), (q, .inr (1, [.ref q1, .ref q2, .long cb])), (r, .inr (0, [.ref r1])), (o1, .inl (cL, 40, .inr (.inl so))), (o2, .inl (cL, 40, .inr (.inl (bw_q f1 go (bw_ng so T go))))), (q1, .inl (cL, 40, .inr (.inl sb))), (q2, .inl (cL, 40, .inr (.inl gb))), (r1, .inl (cL, 40, .inr (.inl (bw_q f1 bl (bw_nl so sb T go bl)))))] t.heap ∧ va_D (va_A [(x, .inr (2, [.long T, .ref t1, .ref o, .ref q, .ref r, .int f1, .int f2])), (t1, .inl (cI, 40, .inl tc)), (o, .inr (1, [.ref o1, .ref o2, .long co])), (q, .inr (1, [.ref q1, .ref q2, .long cb])), (r, .inr (0, [.ref r1])), (o1, .inl (cL, 40, .inr (.inl so))), (o2, .inl (cL, 40, .inr (.inl go))), (q1, .inl (cL, 40, .inr (.inl sb))), (q2, .inl (cL, 40, .inr (.inl gb))), (r1, .inl (cL, 40, .inr (.inl bl)))] sz) [(x, .inr (2, [.long T, .ref t1, .ref o, .ref q, .ref r, .int 0, .int f2])), (t1, .inl (cI, 40, .inl tc)), (o, .inr (1, [.ref o1, .ref o2, .long (bw_q f1 co (bw_nc so T))])), (q, .inr (1, [.ref q1, .ref q2, .long cb])), (r, .inr (0, [.ref r1])), (o1, .inl (cL, 40, .inr (.inl so))), (o2, .inl (cL, 40, .inr (.inl (bw_q f1 go (bw_ng so T go))))), (q1, .inl (cL, 40, .inr (.inl sb))), (q2, .inl (cL, 40, .inr (.inl gb))), (r1, .inl (cL, 40, .inr (.inl (bw_q f1 bl (bw_nl so sb T go bl)))))]) (va_A [(x, .inr (2, [.long T, .ref t1, .ref o, .ref q, .ref r, .int f1, .int f2])), (t1, .inl (cI, 40, .inl tc)), (o, .inr (1, [.ref o1, .ref o2, .long co])), (q, .inr (1, [.ref q1, .ref q2, .long cb])), (r, .inr (0, [.ref r1])), (o1, .inl (cL, 40, .inr (.inl so))), (o2, .inl (cL, 40, .inr (.inl go))), (q1, .inl (cL, 40, .inr (.inl sb))), (q2, .inl (cL, 40, .inr (.inl gb))), (r1, .inl (cL, 40, .inr (.inl bl)))] sz)) 0 0 (va_A [(x, .inr (2, [.long T, .ref t1, .ref o, .ref q, .ref r, .int f1, .int f2])), (t1, .inl (cI, 40, .inl tc)), (o, .inr (1, [.ref o1, .ref o2, .long co])), (q, .inr (1, [.ref q1, .ref q2, .long cb])), (r, .inr (0, [.ref r1])), (o1, .inl (cL, 40, .inr (.inl so))), (o2, .inl (cL, 40, .inr (.inl go))), (q1, .inl (cL, 40, .inr (.inl sb))), (q2, .inl (cL, 40, .inr (.inl gb))), (r1, .inl (cL, 40, .inr (.inl bl)))] sz) := by
  refine Met.ofW (cc := cB_set) (maxL := 3) (ret := (some .long)) (by decide) rfl ?_
  intro p e s m args below meth c s₁ B hml hv
  obtain ⟨rfl, hsz, hP, hK, hN, hD0⟩ := hv
  have hx := B.exec
  have hb := B.bytes
  have hr := B.returns
  have hts := atoms_spec (ws := wsB_set) B.pre
  have hT : ∀ w ∈ bwB, w.before _ s = true := fun w h => hts w (List.mem_cons_of_mem _ h)
  have hown : s.vm.findClass RB = some m.cls := findClass_of_methodNamed B.named
  have hlocks := B.notSynchronized
  subst hsz
  have hD := hD0.self (sz := s.heap.size)
  generalize hAe : va_A [(x, .inr (2, [.long T, .ref t1, .ref o, .ref q, .ref r, .int f1, .int f2])), (t1, .inl (cI, 40, .inl tc)), (o, .inr (1, [.ref o1, .ref o2, .long co])), (q, .inr (1, [.ref q1, .ref q2, .long cb])), (r, .inr (0, [.ref r1])), (o1, .inl (cL, 40, .inr (.inl so))), (o2, .inl (cL, 40, .inr (.inl go))), (q1, .inl (cL, 40, .inr (.inl sb))), (q2, .inl (cL, 40, .inr (.inl gb))), (r1, .inl (cL, 40, .inr (.inl bl)))] s.heap.size = A at hD ⊢
  have hA : ∀ q : Nat, s.heap.size ≤ q → A q := fun q h => by rw [← hAe]; exact Or.inr h
  have hS : va_S A s.heap s.heap [] := va_S.rf
  have hP : va_P (dC, dI) vwCl [(x, .inr (2, [.long T, .ref t1, .ref o, .ref q, .ref r, .int f1, .int f2])), (t1, .inl (cI, 40, .inl tc)), (o, .inr (1, [.ref o1, .ref o2, .long co])), (q, .inr (1, [.ref q1, .ref q2, .long cb])), (r, .inr (0, [.ref r1])), (o1, .inl (cL, 40, .inr (.inl so))), (o2, .inl (cL, 40, .inr (.inl go))), (q1, .inl (cL, 40, .inr (.inl sb))), (q2, .inl (cL, 40, .inr (.inl gb))), (r1, .inl (cL, 40, .inr (.inl bl)))] s.heap := hP
  have hl := lv_entry ([.ref x, .int 2, .int (nI k)]) (n := 3) (Nat.le_of_ble_eq_true rfl)
  rw [lg_entry_eq]
  generalize (lg_sl ([.ref x, .int 2, .int (nI k)]) ++ List.replicate (3 - (lg_sl ([.ref x, .int 2, .int (nI k)])).length) Slot.unset).toArray = ls at hl ⊢
  have hl : lv_has ls 3 [(0, .ref x), (1, .int 2), (2, .int (nI k))] := hl
  refine lv_iload_n hx hb dB_set_0 rfl (lv_at hl 2 rfl) ?_
  refine vp_callSi (W.runS (As := [.int (nI k)]) (rest := []) ⟨hx, hb, hml, hown, hT⟩ (c_isB1 l k (by omega)) (cwS 1 hT g_B_41 rfl rfl rfl (by decide +kernel) ⟨Nat.le_of_ble_eq_true rfl, Nat.le_of_ble_eq_true rfl⟩) preEq rfl rfl hl.1 rfl (lv_room (Nat.le_of_ble_eq_true rfl)) dB_set_1 ⟨Nat.le_of_ble_eq_true rfl, Nat.le_of_ble_eq_true rfl⟩) (fun r_1 hr_1 => ?_)
  rw [hr_1]; clear hr_1
  refine lv_if_ne (tgt := 9) hx hb dB_set_4 (by decide) (fun c_2 => ?_) (fun c_2 => ?_)
  · skip
    refine lv_iload_n hx hb dB_set_9 rfl (lv_at hl 1 rfl) ?_
    refine lv_tableIn (off := 56) (tgt := 66) hx hb dB_set_10 (by decide) (by decide) (by decide) (by decide) ?_
    refine lv_aload_n hx hb dB_set_66 rfl (lv_at hl 0 rfl) ?_
    have hPc := hP.sub (ws' := [(x, .inr (2, [.long T, .ref t1, .ref o, .ref q, .ref r, .int f1, .int f2])), (t1, .inl (cI, 40, .inl tc)), (o, .inr (1, [.ref o1, .ref o2, .long co])), (q, .inr (1, [.ref q1, .ref q2, .long cb])), (r, .inr (0, [.ref r1])), (o1, .inl (cL, 40, .inr (.inl so))), (o2, .inl (cL, 40, .inr (.inl go))), (q1, .inl (cL, 40, .inr (.inl sb))), (q2, .inl (cL, 40, .inr (.inl gb))), (r1, .inl (cL, 40, .inr (.inl bl)))]) [0, 1, 2, 3, 4, 5, 6, 7, 8, 9] rfl
    have hDc := hD.sub (ws' := [(x, .inr (2, [.long T, .ref t1, .ref o, .ref q, .ref r, .int f1, .int f2])), (t1, .inl (cI, 40, .inl tc)), (o, .inr (1, [.ref o1, .ref o2, .long co])), (q, .inr (1, [.ref q1, .ref q2, .long cb])), (r, .inr (0, [.ref r1])), (o1, .inl (cL, 40, .inr (.inl so))), (o2, .inl (cL, 40, .inr (.inl go))), (q1, .inl (cL, 40, .inr (.inl sb))), (q2, .inl (cL, 40, .inr (.inl gb))), (r1, .inl (cL, 40, .inr (.inl bl)))]) [0, 1, 2, 3, 4, 5, 6, 7, 8, 9] (by decide) rfl
    have hKc := hK.sub (tys' := [(cI, .int), (cL, .long)]) [0, 1] rfl
    have hFc := va_free (wc := [(x, .inr (2, [.long T, .ref t1, .ref o, .ref q, .ref r, .int f1, .int f2])), (t1, .inl (cI, 40, .inl tc)), (o, .inr (1, [.ref o1, .ref o2, .long co])), (q, .inr (1, [.ref q1, .ref q2, .long cb])), (r, .inr (0, [.ref r1])), (o1, .inl (cL, 40, .inr (.inl so))), (o2, .inl (cL, 40, .inr (.inl go))), (q1, .inl (cL, 40, .inr (.inl sb))), (q2, .inl (cL, 40, .inr (.inl gb))), (r1, .inl (cL, 40, .inr (.inl bl)))]) hD hS hA [0, 1, 2, 3, 4, 5, 6, 7, 8, 9] rfl
    refine va_callr (va_runV (As := []) (rest := []) ⟨hx, hb, hml, hown, hT⟩ (c_freshRounds l dC dI x t1 o o1 o2 q q1 q2 r r1 cI cL T tc so go co sb gb cb bl f1 f2 s.heap.size) (cwV 0 hT g_B_89 rfl rfl rfl (by decide +kernel) ⟨Nat.le_of_ble_eq_true rfl, Nat.le_of_ble_eq_true rfl⟩) (bw_qV hPc hKc hN hDc (ci := 2) (q0 := 0) rfl rfl) rfl rfl hl.1 rfl (lv_room (Nat.le_of_ble_eq_true rfl)) dB_set_67 ⟨Nat.le_of_ble_eq_true rfl, Nat.le_of_ble_eq_true rfl⟩) hS (fun q _ h => hFc q h) hFc (fun u_3 ra_3 t_3 H1 locs ht hvm hw_3 hB hz1 hk1 hS => ?_)
    obtain ⟨era, hP1, hD1⟩ := hB
    rw [ht] at hP1
    obtain ⟨hP, hD⟩ := va_join (wr := []) (w1 := [(x, .inr (2, [.long T, .ref t1, .ref o, .ref q, .ref r, .int 0, .int f2])), (t1, .inl (cI, 40, .inl tc)), (o, .inr (1, [.ref o1, .ref o2, .long (bw_q f1 co (bw_nc so T))])), (q, .inr (1, [.ref q1, .ref q2, .long cb])), (r, .inr (0, [.ref r1])), (o1, .inl (cL, 40, .inr (.inl so))), (o2, .inl (cL, 40, .inr (.inl (bw_q f1 go (bw_ng so T go))))), (q1, .inl (cL, 40, .inr (.inl sb))), (q2, .inl (cL, 40, .inr (.inl gb))), (r1, .inl (cL, 40, .inr (.inl (bw_q f1 bl (bw_nl so sb T go bl)))))]) hP hD [0, 1, 2, 3, 4, 5, 6, 7, 8, 9] [] rfl rfl (by decide) (by decide) hk1 hFc hP1 hD1
    generalize H1 = H at hP hS ⊢
    have hP : va_P (dC, dI) vwCl [(x, .inr (2, [.long T, .ref t1, .ref o, .ref q, .ref r, .int 0, .int f2])), (t1, .inl (cI, 40, .inl tc)), (o, .inr (1, [.ref o1, .ref o2, .long (bw_q f1 co (bw_nc so T))])), (q, .inr (1, [.ref q1, .ref q2, .long cb])), (r, .inr (0, [.ref r1])), (o1, .inl (cL, 40, .inr (.inl so))), (o2, .inl (cL, 40, .inr (.inl (bw_q f1 go (bw_ng so T go))))), (q1, .inl (cL, 40, .inr (.inl sb))), (q2, .inl (cL, 40, .inr (.inl gb))), (r1, .inl (cL, 40, .inr (.inl (bw_q f1 bl (bw_nl so sb T go bl)))))] H := hP
    have hD : va_D A [(x, .inr (2, [.long T, .ref t1, .ref o, .ref q, .ref r, .int 0, .int f2])), (t1, .inl (cI, 40, .inl tc)), (o, .inr (1, [.ref o1, .ref o2, .long (bw_q f1 co (bw_nc so T))])), (q, .inr (1, [.ref q1, .ref q2, .long cb])), (r, .inr (0, [.ref r1])), (o1, .inl (cL, 40, .inr (.inl so))), (o2, .inl (cL, 40, .inr (.inl (bw_q f1 go (bw_ng so T go))))), (q1, .inl (cL, 40, .inr (.inl sb))), (q2, .inl (cL, 40, .inr (.inl gb))), (r1, .inl (cL, 40, .inr (.inl (bw_q f1 bl (bw_nl so sb T go bl)))))] := hD
    rw [era]; clear era
    refine lv_iload_n hx hb dB_set_70 rfl (lv_at hl 2 rfl) ?_
    have hPc := hP.sub (ws' := [(r, .inr (0, [.ref r1])), (r1, .inl (cL, 40, .inr (.inl (bw_q f1 bl (bw_nl so sb T go bl)))))]) [4, 9] rfl
    have hKc := hK.sub (tys' := [(cL, .long)]) [1] rfl
    refine vp_callSl (W.runV (As := [.int (nI k)]) (rest := []) ⟨hx, hb, hml, hown, hT⟩ (c_blocksOf l dC dI r r1 cL (bw_q f1 bl (bw_nl so sb T go bl)) k (by omega)) (cwV 1 hT g_B_111 rfl rfl rfl (by decide +kernel) ⟨Nat.le_of_ble_eq_true rfl, Nat.le_of_ble_eq_true rfl⟩) (bw_pV hPc hKc hN (ci := 0) (q0 := 0) rfl rfl) rfl rfl hl.1 rfl (lv_room (Nat.le_of_ble_eq_true rfl)) dB_set_71 ⟨Nat.le_of_ble_eq_true rfl, Nat.le_of_ble_eq_true rfl⟩) (fun r_4 hr_4 => ?_)
    rw [hr_4]; clear hr_4
    have hP9 := hP.sub (ws' := [(x, .inr (2, [.long T, .ref t1, .ref o, .ref q, .ref r, .int 0, .int f2])), (t1, .inl (cI, 40, .inl tc)), (o, .inr (1, [.ref o1, .ref o2, .long (bw_q f1 co (bw_nc so T))])), (q, .inr (1, [.ref q1, .ref q2, .long cb])), (r, .inr (0, [.ref r1])), (o1, .inl (cL, 40, .inr (.inl so))), (o2, .inl (cL, 40, .inr (.inl (bw_q f1 go (bw_ng so T go))))), (q1, .inl (cL, 40, .inr (.inl sb))), (q2, .inl (cL, 40, .inr (.inl gb))), (r1, .inl (cL, 40, .inr (.inl (bw_q f1 bl (bw_nl so sb T go bl)))))]) [0, 1, 2, 3, 4, 5, 6, 7, 8, 9] rfl
    have hD9 := hD.sub (ws' := [(x, .inr (2, [.long T, .ref t1, .ref o, .ref q, .ref r, .int 0, .int f2])), (t1, .inl (cI, 40, .inl tc)), (o, .inr (1, [.ref o1, .ref o2, .long (bw_q f1 co (bw_nc so T))])), (q, .inr (1, [.ref q1, .ref q2, .long cb])), (r, .inr (0, [.ref r1])), (o1, .inl (cL, 40, .inr (.inl so))), (o2, .inl (cL, 40, .inr (.inl (bw_q f1 go (bw_ng so T go))))), (q1, .inl (cL, 40, .inr (.inl sb))), (q2, .inl (cL, 40, .inr (.inl gb))), (r1, .inl (cL, 40, .inr (.inl (bw_q f1 bl (bw_nl so sb T go bl)))))]) [0, 1, 2, 3, 4, 5, 6, 7, 8, 9] (by decide) rfl
    exact W.lret (v := (bw_q f1 bl (bw_nl so sb T go bl)) k) hx hb hr (fun t9 ht9 hW9 => ⟨⟨_, (), rfl, rfl, by rw [ht9]; exact hP9, by exact hD9⟩, hS.F ht9⟩) hS.2.2 dB_set_74
  · skip
    exact absurd c_2 (by decide)
set_option maxHeartbeats 4000000 in
set_option maxRecDepth 100000 in
theorem c_set_3 (l : Launch) (dC : Nat → ClassId) (dI : Nat → Nat → Nat) (x t1 o o1 o2 q q1 q2 r r1 : Nat) (cI cL : ClassId) (T : Int64) (tc : Nat → Int32) (so go : Nat → Int64) (co : Int64) (sb gb : Nat → Int64) (cb : Int64) (bl : Nat → Int64) (f1 f2 : Int32) (k : Nat) (hk : k < 40) (sz : Nat) : Met l yB_set wsB_set ({ frames := 6, cells := 0, slots := 0, locals := 141 } : Room) (bw_Wr (dC, dI) [(cI, .int), (cL, .long)] [(x, .inr (2, [.long T, .ref t1, .ref o, .ref q, .ref r, .int f1, .int f2])), (t1, .inl (cI, 40, .inl tc)), (o, .inr (1, [.ref o1, .ref o2, .long co])), (q, .inr (1, [.ref q1, .ref q2, .long cb])), (r, .inr (0, [.ref r1])), (o1, .inl (cL, 40, .inr (.inl so))), (o2, .inl (cL, 40, .inr (.inl go))), (q1, .inl (cL, 40, .inr (.inl sb))), (q2, .inl (cL, 40, .inr (.inl gb))), (r1, .inl (cL, 40, .inr (.inl bl)))] sz [.ref x, .int 3, .int (nI k)]) (va_Ql (S := Unit) (fun r _ => r = bw_rim so (bw_q f1 go (bw_ng so T go)) (bw_q f1 co (bw_nc so T)) k) (fun (_ : Unit) t => va_P (dC, dI) vwCl [(x, .inr (2, [.long T, .ref t1, .ref o, .ref q, .ref r, .int 0, .int f2])), (t1, .inl (cI, 40, .inl tc)), (o, .inr (1, [.ref o1, .ref o2, .long (bw_q f1 co (bw_nc so T))])), (q, .inr (1, [.ref q1, .ref q2, .long cb])), (r, .inr (0, [.ref r1])), (o1, .inl (cL, 40, .inr (.inl so))), (o2, .inl (cL, 40, .inr (.inl (bw_q f1 go (bw_ng so T go))))), (q1, .inl (cL, 40, .inr (.inl sb))), (q2, .inl (cL, 40, .inr (.inl gb))), (r1, .inl (cL, 40, .inr (.inl (bw_q f1 bl (bw_nl so sb T go bl)))))] t.heap ∧ va_D (va_A [(x, .inr (2, [.long T, .ref t1, .ref o, .ref q, .ref r, .int f1, .int f2])), (t1, .inl (cI, 40, .inl tc)), (o, .inr (1, [.ref o1, .ref o2, .long co])), (q, .inr (1, [.ref q1, .ref q2, .long cb])), (r, .inr (0, [.ref r1])), (o1, .inl (cL, 40, .inr (.inl so))), (o2, .inl (cL, 40, .inr (.inl go))), (q1, .inl (cL, 40, .inr (.inl sb))), (q2, .inl (cL, 40, .inr (.inl gb))), (r1, .inl (cL, 40, .inr (.inl bl)))] sz) [(x, .inr (2, [.long T, .ref t1, .ref o, .ref q, .ref r, .int 0, .int f2])), (t1, .inl (cI, 40, .inl tc)), (o, .inr (1, [.ref o1, .ref o2, .long (bw_q f1 co (bw_nc so T))])), (q, .inr (1, [.ref q1, .ref q2, .long cb])), (r, .inr (0, [.ref r1])), (o1, .inl (cL, 40, .inr (.inl so))), (o2, .inl (cL, 40, .inr (.inl (bw_q f1 go (bw_ng so T go))))), (q1, .inl (cL, 40, .inr (.inl sb))), (q2, .inl (cL, 40, .inr (.inl gb))), (r1, .inl (cL, 40, .inr (.inl (bw_q f1 bl (bw_nl so sb T go bl)))))]) (va_A [(x, .inr (2, [.long T, .ref t1, .ref o, .ref q, .ref r, .int f1, .int f2])), (t1, .inl (cI, 40, .inl tc)), (o, .inr (1, [.ref o1, .ref o2, .long co])), (q, .inr (1, [.ref q1, .ref q2, .long cb])), (r, .inr (0, [.ref r1])), (o1, .inl (cL, 40, .inr (.inl so))), (o2, .inl (cL, 40, .inr (.inl go))), (q1, .inl (cL, 40, .inr (.inl sb))), (q2, .inl (cL, 40, .inr (.inl gb))), (r1, .inl (cL, 40, .inr (.inl bl)))] sz)) 0 0 (va_A [(x, .inr (2, [.long T, .ref t1, .ref o, .ref q, .ref r, .int f1, .int f2])), (t1, .inl (cI, 40, .inl tc)), (o, .inr (1, [.ref o1, .ref o2, .long co])), (q, .inr (1, [.ref q1, .ref q2, .long cb])), (r, .inr (0, [.ref r1])), (o1, .inl (cL, 40, .inr (.inl so))), (o2, .inl (cL, 40, .inr (.inl go))), (q1, .inl (cL, 40, .inr (.inl sb))), (q2, .inl (cL, 40, .inr (.inl gb))), (r1, .inl (cL, 40, .inr (.inl bl)))] sz) := by
  refine Met.ofW (cc := cB_set) (maxL := 3) (ret := (some .long)) (by decide) rfl ?_
  intro p e s m args below meth c s₁ B hml hv
  obtain ⟨rfl, hsz, hP, hK, hN, hD0⟩ := hv
  have hx := B.exec
  have hb := B.bytes
  have hr := B.returns
  have hts := atoms_spec (ws := wsB_set) B.pre
  have hT : ∀ w ∈ bwB, w.before _ s = true := fun w h => hts w (List.mem_cons_of_mem _ h)
  have hown : s.vm.findClass RB = some m.cls := findClass_of_methodNamed B.named
  have hlocks := B.notSynchronized
  subst hsz
  have hD := hD0.self (sz := s.heap.size)
  generalize hAe : va_A [(x, .inr (2, [.long T, .ref t1, .ref o, .ref q, .ref r, .int f1, .int f2])), (t1, .inl (cI, 40, .inl tc)), (o, .inr (1, [.ref o1, .ref o2, .long co])), (q, .inr (1, [.ref q1, .ref q2, .long cb])), (r, .inr (0, [.ref r1])), (o1, .inl (cL, 40, .inr (.inl so))), (o2, .inl (cL, 40, .inr (.inl go))), (q1, .inl (cL, 40, .inr (.inl sb))), (q2, .inl (cL, 40, .inr (.inl gb))), (r1, .inl (cL, 40, .inr (.inl bl)))] s.heap.size = A at hD ⊢
  have hA : ∀ q : Nat, s.heap.size ≤ q → A q := fun q h => by rw [← hAe]; exact Or.inr h
  have hS : va_S A s.heap s.heap [] := va_S.rf
  have hP : va_P (dC, dI) vwCl [(x, .inr (2, [.long T, .ref t1, .ref o, .ref q, .ref r, .int f1, .int f2])), (t1, .inl (cI, 40, .inl tc)), (o, .inr (1, [.ref o1, .ref o2, .long co])), (q, .inr (1, [.ref q1, .ref q2, .long cb])), (r, .inr (0, [.ref r1])), (o1, .inl (cL, 40, .inr (.inl so))), (o2, .inl (cL, 40, .inr (.inl go))), (q1, .inl (cL, 40, .inr (.inl sb))), (q2, .inl (cL, 40, .inr (.inl gb))), (r1, .inl (cL, 40, .inr (.inl bl)))] s.heap := hP
  have hl := lv_entry ([.ref x, .int 3, .int (nI k)]) (n := 3) (Nat.le_of_ble_eq_true rfl)
  rw [lg_entry_eq]
  generalize (lg_sl ([.ref x, .int 3, .int (nI k)]) ++ List.replicate (3 - (lg_sl ([.ref x, .int 3, .int (nI k)])).length) Slot.unset).toArray = ls at hl ⊢
  have hl : lv_has ls 3 [(0, .ref x), (1, .int 3), (2, .int (nI k))] := hl
  refine lv_iload_n hx hb dB_set_0 rfl (lv_at hl 2 rfl) ?_
  refine vp_callSi (W.runS (As := [.int (nI k)]) (rest := []) ⟨hx, hb, hml, hown, hT⟩ (c_isB1 l k (by omega)) (cwS 1 hT g_B_41 rfl rfl rfl (by decide +kernel) ⟨Nat.le_of_ble_eq_true rfl, Nat.le_of_ble_eq_true rfl⟩) preEq rfl rfl hl.1 rfl (lv_room (Nat.le_of_ble_eq_true rfl)) dB_set_1 ⟨Nat.le_of_ble_eq_true rfl, Nat.le_of_ble_eq_true rfl⟩) (fun r_1 hr_1 => ?_)
  rw [hr_1]; clear hr_1
  refine lv_if_ne (tgt := 9) hx hb dB_set_4 (by decide) (fun c_2 => ?_) (fun c_2 => ?_)
  · skip
    refine lv_iload_n hx hb dB_set_9 rfl (lv_at hl 1 rfl) ?_
    refine lv_tableIn (off := 65) (tgt := 75) hx hb dB_set_10 (by decide) (by decide) (by decide) (by decide) ?_
    refine lv_aload_n hx hb dB_set_75 rfl (lv_at hl 0 rfl) ?_
    have hPc := hP.sub (ws' := [(x, .inr (2, [.long T, .ref t1, .ref o, .ref q, .ref r, .int f1, .int f2])), (t1, .inl (cI, 40, .inl tc)), (o, .inr (1, [.ref o1, .ref o2, .long co])), (q, .inr (1, [.ref q1, .ref q2, .long cb])), (r, .inr (0, [.ref r1])), (o1, .inl (cL, 40, .inr (.inl so))), (o2, .inl (cL, 40, .inr (.inl go))), (q1, .inl (cL, 40, .inr (.inl sb))), (q2, .inl (cL, 40, .inr (.inl gb))), (r1, .inl (cL, 40, .inr (.inl bl)))]) [0, 1, 2, 3, 4, 5, 6, 7, 8, 9] rfl
    have hDc := hD.sub (ws' := [(x, .inr (2, [.long T, .ref t1, .ref o, .ref q, .ref r, .int f1, .int f2])), (t1, .inl (cI, 40, .inl tc)), (o, .inr (1, [.ref o1, .ref o2, .long co])), (q, .inr (1, [.ref q1, .ref q2, .long cb])), (r, .inr (0, [.ref r1])), (o1, .inl (cL, 40, .inr (.inl so))), (o2, .inl (cL, 40, .inr (.inl go))), (q1, .inl (cL, 40, .inr (.inl sb))), (q2, .inl (cL, 40, .inr (.inl gb))), (r1, .inl (cL, 40, .inr (.inl bl)))]) [0, 1, 2, 3, 4, 5, 6, 7, 8, 9] (by decide) rfl
    have hKc := hK.sub (tys' := [(cI, .int), (cL, .long)]) [0, 1] rfl
    have hFc := va_free (wc := [(x, .inr (2, [.long T, .ref t1, .ref o, .ref q, .ref r, .int f1, .int f2])), (t1, .inl (cI, 40, .inl tc)), (o, .inr (1, [.ref o1, .ref o2, .long co])), (q, .inr (1, [.ref q1, .ref q2, .long cb])), (r, .inr (0, [.ref r1])), (o1, .inl (cL, 40, .inr (.inl so))), (o2, .inl (cL, 40, .inr (.inl go))), (q1, .inl (cL, 40, .inr (.inl sb))), (q2, .inl (cL, 40, .inr (.inl gb))), (r1, .inl (cL, 40, .inr (.inl bl)))]) hD hS hA [0, 1, 2, 3, 4, 5, 6, 7, 8, 9] rfl
    refine va_callr (va_runV (As := []) (rest := []) ⟨hx, hb, hml, hown, hT⟩ (c_freshOnward l dC dI x t1 o o1 o2 q q1 q2 r r1 cI cL T tc so go co sb gb cb bl f1 f2 s.heap.size) (cwV 0 hT g_B_78 rfl rfl rfl (by decide +kernel) ⟨Nat.le_of_ble_eq_true rfl, Nat.le_of_ble_eq_true rfl⟩) (bw_qV hPc hKc hN hDc (ci := 2) (q0 := 0) rfl rfl) rfl rfl hl.1 rfl (lv_room (Nat.le_of_ble_eq_true rfl)) dB_set_76 ⟨Nat.le_of_ble_eq_true rfl, Nat.le_of_ble_eq_true rfl⟩) hS (fun q _ h => hFc q h) hFc (fun u_3 ra_3 t_3 H1 locs ht hvm hw_3 hB hz1 hk1 hS => ?_)
    obtain ⟨era, hP1, hD1⟩ := hB
    rw [ht] at hP1
    obtain ⟨hP, hD⟩ := va_join (wr := []) (w1 := [(x, .inr (2, [.long T, .ref t1, .ref o, .ref q, .ref r, .int 0, .int f2])), (t1, .inl (cI, 40, .inl tc)), (o, .inr (1, [.ref o1, .ref o2, .long (bw_q f1 co (bw_nc so T))])), (q, .inr (1, [.ref q1, .ref q2, .long cb])), (r, .inr (0, [.ref r1])), (o1, .inl (cL, 40, .inr (.inl so))), (o2, .inl (cL, 40, .inr (.inl (bw_q f1 go (bw_ng so T go))))), (q1, .inl (cL, 40, .inr (.inl sb))), (q2, .inl (cL, 40, .inr (.inl gb))), (r1, .inl (cL, 40, .inr (.inl (bw_q f1 bl (bw_nl so sb T go bl)))))]) hP hD [0, 1, 2, 3, 4, 5, 6, 7, 8, 9] [] rfl rfl (by decide) (by decide) hk1 hFc hP1 hD1
    generalize H1 = H at hP hS ⊢
    have hP : va_P (dC, dI) vwCl [(x, .inr (2, [.long T, .ref t1, .ref o, .ref q, .ref r, .int 0, .int f2])), (t1, .inl (cI, 40, .inl tc)), (o, .inr (1, [.ref o1, .ref o2, .long (bw_q f1 co (bw_nc so T))])), (q, .inr (1, [.ref q1, .ref q2, .long cb])), (r, .inr (0, [.ref r1])), (o1, .inl (cL, 40, .inr (.inl so))), (o2, .inl (cL, 40, .inr (.inl (bw_q f1 go (bw_ng so T go))))), (q1, .inl (cL, 40, .inr (.inl sb))), (q2, .inl (cL, 40, .inr (.inl gb))), (r1, .inl (cL, 40, .inr (.inl (bw_q f1 bl (bw_nl so sb T go bl)))))] H := hP
    have hD : va_D A [(x, .inr (2, [.long T, .ref t1, .ref o, .ref q, .ref r, .int 0, .int f2])), (t1, .inl (cI, 40, .inl tc)), (o, .inr (1, [.ref o1, .ref o2, .long (bw_q f1 co (bw_nc so T))])), (q, .inr (1, [.ref q1, .ref q2, .long cb])), (r, .inr (0, [.ref r1])), (o1, .inl (cL, 40, .inr (.inl so))), (o2, .inl (cL, 40, .inr (.inl (bw_q f1 go (bw_ng so T go))))), (q1, .inl (cL, 40, .inr (.inl sb))), (q2, .inl (cL, 40, .inr (.inl gb))), (r1, .inl (cL, 40, .inr (.inl (bw_q f1 bl (bw_nl so sb T go bl)))))] := hD
    rw [era]; clear era
    refine lv_iload_n hx hb dB_set_79 rfl (lv_at hl 2 rfl) ?_
    have hPc := hP.sub (ws' := [(o, .inr (1, [.ref o1, .ref o2, .long (bw_q f1 co (bw_nc so T))])), (o1, .inl (cL, 40, .inr (.inl so))), (o2, .inl (cL, 40, .inr (.inl (bw_q f1 go (bw_ng so T go)))))]) [2, 5, 6] rfl
    have hKc := hK.sub (tys' := [(cL, .long)]) [1] rfl
    refine vp_callSl (W.runV (As := [.int (nI k)]) (rest := []) ⟨hx, hb, hml, hown, hT⟩ (c_rim l dC dI o o1 o2 cL so (bw_q f1 go (bw_ng so T go)) (bw_q f1 co (bw_nc so T)) k (by omega)) (cwV 1 hT g_B_114 rfl rfl rfl (by decide +kernel) ⟨Nat.le_of_ble_eq_true rfl, Nat.le_of_ble_eq_true rfl⟩) (bw_pV hPc hKc hN (ci := 1) (q0 := 0) rfl rfl) rfl rfl hl.1 rfl (lv_room (Nat.le_of_ble_eq_true rfl)) dB_set_80 ⟨Nat.le_of_ble_eq_true rfl, Nat.le_of_ble_eq_true rfl⟩) (fun r_4 hr_4 => ?_)
    rw [hr_4]; clear hr_4
    have hP9 := hP.sub (ws' := [(x, .inr (2, [.long T, .ref t1, .ref o, .ref q, .ref r, .int 0, .int f2])), (t1, .inl (cI, 40, .inl tc)), (o, .inr (1, [.ref o1, .ref o2, .long (bw_q f1 co (bw_nc so T))])), (q, .inr (1, [.ref q1, .ref q2, .long cb])), (r, .inr (0, [.ref r1])), (o1, .inl (cL, 40, .inr (.inl so))), (o2, .inl (cL, 40, .inr (.inl (bw_q f1 go (bw_ng so T go))))), (q1, .inl (cL, 40, .inr (.inl sb))), (q2, .inl (cL, 40, .inr (.inl gb))), (r1, .inl (cL, 40, .inr (.inl (bw_q f1 bl (bw_nl so sb T go bl)))))]) [0, 1, 2, 3, 4, 5, 6, 7, 8, 9] rfl
    have hD9 := hD.sub (ws' := [(x, .inr (2, [.long T, .ref t1, .ref o, .ref q, .ref r, .int 0, .int f2])), (t1, .inl (cI, 40, .inl tc)), (o, .inr (1, [.ref o1, .ref o2, .long (bw_q f1 co (bw_nc so T))])), (q, .inr (1, [.ref q1, .ref q2, .long cb])), (r, .inr (0, [.ref r1])), (o1, .inl (cL, 40, .inr (.inl so))), (o2, .inl (cL, 40, .inr (.inl (bw_q f1 go (bw_ng so T go))))), (q1, .inl (cL, 40, .inr (.inl sb))), (q2, .inl (cL, 40, .inr (.inl gb))), (r1, .inl (cL, 40, .inr (.inl (bw_q f1 bl (bw_nl so sb T go bl)))))]) [0, 1, 2, 3, 4, 5, 6, 7, 8, 9] (by decide) rfl
    exact W.lret (v := bw_rim so (bw_q f1 go (bw_ng so T go)) (bw_q f1 co (bw_nc so T)) k) hx hb hr (fun t9 ht9 hW9 => ⟨⟨_, (), rfl, rfl, by rw [ht9]; exact hP9, by exact hD9⟩, hS.F ht9⟩) hS.2.2 dB_set_83
  · skip
    exact absurd c_2 (by decide)
set_option maxHeartbeats 4000000 in
set_option maxRecDepth 100000 in
theorem c_set_4 (l : Launch) (dC : Nat → ClassId) (dI : Nat → Nat → Nat) (x t1 o o1 o2 q q1 q2 r r1 : Nat) (cI cL : ClassId) (T : Int64) (tc : Nat → Int32) (so go : Nat → Int64) (co : Int64) (sb gb : Nat → Int64) (cb : Int64) (bl : Nat → Int64) (f1 f2 : Int32) (k : Nat) (hk : k < 40) (sz : Nat) : Met l yB_set wsB_set ({ frames := 5, cells := 0, slots := 0, locals := 120 } : Room) (bw_Wr (dC, dI) [(cI, .int), (cL, .long)] [(x, .inr (2, [.long T, .ref t1, .ref o, .ref q, .ref r, .int f1, .int f2])), (t1, .inl (cI, 40, .inl tc)), (o, .inr (1, [.ref o1, .ref o2, .long co])), (q, .inr (1, [.ref q1, .ref q2, .long cb])), (r, .inr (0, [.ref r1])), (o1, .inl (cL, 40, .inr (.inl so))), (o2, .inl (cL, 40, .inr (.inl go))), (q1, .inl (cL, 40, .inr (.inl sb))), (q2, .inl (cL, 40, .inr (.inl gb))), (r1, .inl (cL, 40, .inr (.inl bl)))] sz [.ref x, .int 4, .int (nI k)]) (va_Ql (S := Unit) (fun r _ => r = bw_rim sb (bw_q f2 gb (bw_mg sb T tc gb)) (bw_q f2 cb (bw_mc sb T tc)) k) (fun (_ : Unit) t => va_P (dC, dI) vwCl [(x, .inr (2, [.long T, .ref t1, .ref o, .ref q, .ref r, .int f1, .int 0])), (t1, .inl (cI, 40, .inl tc)), (o, .inr (1, [.ref o1, .ref o2, .long co])), (q, .inr (1, [.ref q1, .ref q2, .long (bw_q f2 cb (bw_mc sb T tc))])), (r, .inr (0, [.ref r1])), (o1, .inl (cL, 40, .inr (.inl so))), (o2, .inl (cL, 40, .inr (.inl go))), (q1, .inl (cL, 40, .inr (.inl sb))), (q2, .inl (cL, 40, .inr (.inl (bw_q f2 gb (bw_mg sb T tc gb))))), (r1, .inl (cL, 40, .inr (.inl bl)))] t.heap ∧ va_D (va_A [(x, .inr (2, [.long T, .ref t1, .ref o, .ref q, .ref r, .int f1, .int f2])), (t1, .inl (cI, 40, .inl tc)), (o, .inr (1, [.ref o1, .ref o2, .long co])), (q, .inr (1, [.ref q1, .ref q2, .long cb])), (r, .inr (0, [.ref r1])), (o1, .inl (cL, 40, .inr (.inl so))), (o2, .inl (cL, 40, .inr (.inl go))), (q1, .inl (cL, 40, .inr (.inl sb))), (q2, .inl (cL, 40, .inr (.inl gb))), (r1, .inl (cL, 40, .inr (.inl bl)))] sz) [(x, .inr (2, [.long T, .ref t1, .ref o, .ref q, .ref r, .int f1, .int 0])), (t1, .inl (cI, 40, .inl tc)), (o, .inr (1, [.ref o1, .ref o2, .long co])), (q, .inr (1, [.ref q1, .ref q2, .long (bw_q f2 cb (bw_mc sb T tc))])), (r, .inr (0, [.ref r1])), (o1, .inl (cL, 40, .inr (.inl so))), (o2, .inl (cL, 40, .inr (.inl go))), (q1, .inl (cL, 40, .inr (.inl sb))), (q2, .inl (cL, 40, .inr (.inl (bw_q f2 gb (bw_mg sb T tc gb))))), (r1, .inl (cL, 40, .inr (.inl bl)))]) (va_A [(x, .inr (2, [.long T, .ref t1, .ref o, .ref q, .ref r, .int f1, .int f2])), (t1, .inl (cI, 40, .inl tc)), (o, .inr (1, [.ref o1, .ref o2, .long co])), (q, .inr (1, [.ref q1, .ref q2, .long cb])), (r, .inr (0, [.ref r1])), (o1, .inl (cL, 40, .inr (.inl so))), (o2, .inl (cL, 40, .inr (.inl go))), (q1, .inl (cL, 40, .inr (.inl sb))), (q2, .inl (cL, 40, .inr (.inl gb))), (r1, .inl (cL, 40, .inr (.inl bl)))] sz)) 0 0 (va_A [(x, .inr (2, [.long T, .ref t1, .ref o, .ref q, .ref r, .int f1, .int f2])), (t1, .inl (cI, 40, .inl tc)), (o, .inr (1, [.ref o1, .ref o2, .long co])), (q, .inr (1, [.ref q1, .ref q2, .long cb])), (r, .inr (0, [.ref r1])), (o1, .inl (cL, 40, .inr (.inl so))), (o2, .inl (cL, 40, .inr (.inl go))), (q1, .inl (cL, 40, .inr (.inl sb))), (q2, .inl (cL, 40, .inr (.inl gb))), (r1, .inl (cL, 40, .inr (.inl bl)))] sz) := by
  refine Met.ofW (cc := cB_set) (maxL := 3) (ret := (some .long)) (by decide) rfl ?_
  intro p e s m args below meth c s₁ B hml hv
  obtain ⟨rfl, hsz, hP, hK, hN, hD0⟩ := hv
  have hx := B.exec
  have hb := B.bytes
  have hr := B.returns
  have hts := atoms_spec (ws := wsB_set) B.pre
  have hT : ∀ w ∈ bwB, w.before _ s = true := fun w h => hts w (List.mem_cons_of_mem _ h)
  have hown : s.vm.findClass RB = some m.cls := findClass_of_methodNamed B.named
  have hlocks := B.notSynchronized
  subst hsz
  have hD := hD0.self (sz := s.heap.size)
  generalize hAe : va_A [(x, .inr (2, [.long T, .ref t1, .ref o, .ref q, .ref r, .int f1, .int f2])), (t1, .inl (cI, 40, .inl tc)), (o, .inr (1, [.ref o1, .ref o2, .long co])), (q, .inr (1, [.ref q1, .ref q2, .long cb])), (r, .inr (0, [.ref r1])), (o1, .inl (cL, 40, .inr (.inl so))), (o2, .inl (cL, 40, .inr (.inl go))), (q1, .inl (cL, 40, .inr (.inl sb))), (q2, .inl (cL, 40, .inr (.inl gb))), (r1, .inl (cL, 40, .inr (.inl bl)))] s.heap.size = A at hD ⊢
  have hA : ∀ q : Nat, s.heap.size ≤ q → A q := fun q h => by rw [← hAe]; exact Or.inr h
  have hS : va_S A s.heap s.heap [] := va_S.rf
  have hP : va_P (dC, dI) vwCl [(x, .inr (2, [.long T, .ref t1, .ref o, .ref q, .ref r, .int f1, .int f2])), (t1, .inl (cI, 40, .inl tc)), (o, .inr (1, [.ref o1, .ref o2, .long co])), (q, .inr (1, [.ref q1, .ref q2, .long cb])), (r, .inr (0, [.ref r1])), (o1, .inl (cL, 40, .inr (.inl so))), (o2, .inl (cL, 40, .inr (.inl go))), (q1, .inl (cL, 40, .inr (.inl sb))), (q2, .inl (cL, 40, .inr (.inl gb))), (r1, .inl (cL, 40, .inr (.inl bl)))] s.heap := hP
  have hl := lv_entry ([.ref x, .int 4, .int (nI k)]) (n := 3) (Nat.le_of_ble_eq_true rfl)
  rw [lg_entry_eq]
  generalize (lg_sl ([.ref x, .int 4, .int (nI k)]) ++ List.replicate (3 - (lg_sl ([.ref x, .int 4, .int (nI k)])).length) Slot.unset).toArray = ls at hl ⊢
  have hl : lv_has ls 3 [(0, .ref x), (1, .int 4), (2, .int (nI k))] := hl
  refine lv_iload_n hx hb dB_set_0 rfl (lv_at hl 2 rfl) ?_
  refine vp_callSi (W.runS (As := [.int (nI k)]) (rest := []) ⟨hx, hb, hml, hown, hT⟩ (c_isB1 l k (by omega)) (cwS 1 hT g_B_41 rfl rfl rfl (by decide +kernel) ⟨Nat.le_of_ble_eq_true rfl, Nat.le_of_ble_eq_true rfl⟩) preEq rfl rfl hl.1 rfl (lv_room (Nat.le_of_ble_eq_true rfl)) dB_set_1 ⟨Nat.le_of_ble_eq_true rfl, Nat.le_of_ble_eq_true rfl⟩) (fun r_1 hr_1 => ?_)
  rw [hr_1]; clear hr_1
  refine lv_if_ne (tgt := 9) hx hb dB_set_4 (by decide) (fun c_2 => ?_) (fun c_2 => ?_)
  · skip
    refine lv_iload_n hx hb dB_set_9 rfl (lv_at hl 1 rfl) ?_
    refine lv_tableIn (off := 74) (tgt := 84) hx hb dB_set_10 (by decide) (by decide) (by decide) (by decide) ?_
    refine lv_aload_n hx hb dB_set_84 rfl (lv_at hl 0 rfl) ?_
    have hPc := hP.sub (ws' := [(x, .inr (2, [.long T, .ref t1, .ref o, .ref q, .ref r, .int f1, .int f2])), (t1, .inl (cI, 40, .inl tc)), (o, .inr (1, [.ref o1, .ref o2, .long co])), (q, .inr (1, [.ref q1, .ref q2, .long cb])), (r, .inr (0, [.ref r1])), (o1, .inl (cL, 40, .inr (.inl so))), (o2, .inl (cL, 40, .inr (.inl go))), (q1, .inl (cL, 40, .inr (.inl sb))), (q2, .inl (cL, 40, .inr (.inl gb))), (r1, .inl (cL, 40, .inr (.inl bl)))]) [0, 1, 2, 3, 4, 5, 6, 7, 8, 9] rfl
    have hDc := hD.sub (ws' := [(x, .inr (2, [.long T, .ref t1, .ref o, .ref q, .ref r, .int f1, .int f2])), (t1, .inl (cI, 40, .inl tc)), (o, .inr (1, [.ref o1, .ref o2, .long co])), (q, .inr (1, [.ref q1, .ref q2, .long cb])), (r, .inr (0, [.ref r1])), (o1, .inl (cL, 40, .inr (.inl so))), (o2, .inl (cL, 40, .inr (.inl go))), (q1, .inl (cL, 40, .inr (.inl sb))), (q2, .inl (cL, 40, .inr (.inl gb))), (r1, .inl (cL, 40, .inr (.inl bl)))]) [0, 1, 2, 3, 4, 5, 6, 7, 8, 9] (by decide) rfl
    have hKc := hK.sub (tys' := [(cI, .int), (cL, .long)]) [0, 1] rfl
    have hFc := va_free (wc := [(x, .inr (2, [.long T, .ref t1, .ref o, .ref q, .ref r, .int f1, .int f2])), (t1, .inl (cI, 40, .inl tc)), (o, .inr (1, [.ref o1, .ref o2, .long co])), (q, .inr (1, [.ref q1, .ref q2, .long cb])), (r, .inr (0, [.ref r1])), (o1, .inl (cL, 40, .inr (.inl so))), (o2, .inl (cL, 40, .inr (.inl go))), (q1, .inl (cL, 40, .inr (.inl sb))), (q2, .inl (cL, 40, .inr (.inl gb))), (r1, .inl (cL, 40, .inr (.inl bl)))]) hD hS hA [0, 1, 2, 3, 4, 5, 6, 7, 8, 9] rfl
    refine va_callr (va_runV (As := []) (rest := []) ⟨hx, hb, hml, hown, hT⟩ (c_freshBackward l dC dI x t1 o o1 o2 q q1 q2 r r1 cI cL T tc so go co sb gb cb bl f1 f2 s.heap.size) (cwV 0 hT g_B_86 rfl rfl rfl (by decide +kernel) ⟨Nat.le_of_ble_eq_true rfl, Nat.le_of_ble_eq_true rfl⟩) (bw_qV hPc hKc hN hDc (ci := 2) (q0 := 0) rfl rfl) rfl rfl hl.1 rfl (lv_room (Nat.le_of_ble_eq_true rfl)) dB_set_85 ⟨Nat.le_of_ble_eq_true rfl, Nat.le_of_ble_eq_true rfl⟩) hS (fun q _ h => hFc q h) hFc (fun u_3 ra_3 t_3 H1 locs ht hvm hw_3 hB hz1 hk1 hS => ?_)
    obtain ⟨era, hP1, hD1⟩ := hB
    rw [ht] at hP1
    obtain ⟨hP, hD⟩ := va_join (wr := []) (w1 := [(x, .inr (2, [.long T, .ref t1, .ref o, .ref q, .ref r, .int f1, .int 0])), (t1, .inl (cI, 40, .inl tc)), (o, .inr (1, [.ref o1, .ref o2, .long co])), (q, .inr (1, [.ref q1, .ref q2, .long (bw_q f2 cb (bw_mc sb T tc))])), (r, .inr (0, [.ref r1])), (o1, .inl (cL, 40, .inr (.inl so))), (o2, .inl (cL, 40, .inr (.inl go))), (q1, .inl (cL, 40, .inr (.inl sb))), (q2, .inl (cL, 40, .inr (.inl (bw_q f2 gb (bw_mg sb T tc gb))))), (r1, .inl (cL, 40, .inr (.inl bl)))]) hP hD [0, 1, 2, 3, 4, 5, 6, 7, 8, 9] [] rfl rfl (by decide) (by decide) hk1 hFc hP1 hD1
    generalize H1 = H at hP hS ⊢
    have hP : va_P (dC, dI) vwCl [(x, .inr (2, [.long T, .ref t1, .ref o, .ref q, .ref r, .int f1, .int 0])), (t1, .inl (cI, 40, .inl tc)), (o, .inr (1, [.ref o1, .ref o2, .long co])), (q, .inr (1, [.ref q1, .ref q2, .long (bw_q f2 cb (bw_mc sb T tc))])), (r, .inr (0, [.ref r1])), (o1, .inl (cL, 40, .inr (.inl so))), (o2, .inl (cL, 40, .inr (.inl go))), (q1, .inl (cL, 40, .inr (.inl sb))), (q2, .inl (cL, 40, .inr (.inl (bw_q f2 gb (bw_mg sb T tc gb))))), (r1, .inl (cL, 40, .inr (.inl bl)))] H := hP
    have hD : va_D A [(x, .inr (2, [.long T, .ref t1, .ref o, .ref q, .ref r, .int f1, .int 0])), (t1, .inl (cI, 40, .inl tc)), (o, .inr (1, [.ref o1, .ref o2, .long co])), (q, .inr (1, [.ref q1, .ref q2, .long (bw_q f2 cb (bw_mc sb T tc))])), (r, .inr (0, [.ref r1])), (o1, .inl (cL, 40, .inr (.inl so))), (o2, .inl (cL, 40, .inr (.inl go))), (q1, .inl (cL, 40, .inr (.inl sb))), (q2, .inl (cL, 40, .inr (.inl (bw_q f2 gb (bw_mg sb T tc gb))))), (r1, .inl (cL, 40, .inr (.inl bl)))] := hD
    rw [era]; clear era
    refine lv_iload_n hx hb dB_set_88 rfl (lv_at hl 2 rfl) ?_
    have hPc := hP.sub (ws' := [(q, .inr (1, [.ref q1, .ref q2, .long (bw_q f2 cb (bw_mc sb T tc))])), (q1, .inl (cL, 40, .inr (.inl sb))), (q2, .inl (cL, 40, .inr (.inl (bw_q f2 gb (bw_mg sb T tc gb)))))]) [3, 7, 8] rfl
    have hKc := hK.sub (tys' := [(cL, .long)]) [1] rfl
    refine vp_callSl (W.runV (As := [.int (nI k)]) (rest := []) ⟨hx, hb, hml, hown, hT⟩ (c_rim l dC dI q q1 q2 cL sb (bw_q f2 gb (bw_mg sb T tc gb)) (bw_q f2 cb (bw_mc sb T tc)) k (by omega)) (cwV 1 hT g_B_114 rfl rfl rfl (by decide +kernel) ⟨Nat.le_of_ble_eq_true rfl, Nat.le_of_ble_eq_true rfl⟩) (bw_pV hPc hKc hN (ci := 1) (q0 := 0) rfl rfl) rfl rfl hl.1 rfl (lv_room (Nat.le_of_ble_eq_true rfl)) dB_set_89 ⟨Nat.le_of_ble_eq_true rfl, Nat.le_of_ble_eq_true rfl⟩) (fun r_4 hr_4 => ?_)
    rw [hr_4]; clear hr_4
    have hP9 := hP.sub (ws' := [(x, .inr (2, [.long T, .ref t1, .ref o, .ref q, .ref r, .int f1, .int 0])), (t1, .inl (cI, 40, .inl tc)), (o, .inr (1, [.ref o1, .ref o2, .long co])), (q, .inr (1, [.ref q1, .ref q2, .long (bw_q f2 cb (bw_mc sb T tc))])), (r, .inr (0, [.ref r1])), (o1, .inl (cL, 40, .inr (.inl so))), (o2, .inl (cL, 40, .inr (.inl go))), (q1, .inl (cL, 40, .inr (.inl sb))), (q2, .inl (cL, 40, .inr (.inl (bw_q f2 gb (bw_mg sb T tc gb))))), (r1, .inl (cL, 40, .inr (.inl bl)))]) [0, 1, 2, 3, 4, 5, 6, 7, 8, 9] rfl
    have hD9 := hD.sub (ws' := [(x, .inr (2, [.long T, .ref t1, .ref o, .ref q, .ref r, .int f1, .int 0])), (t1, .inl (cI, 40, .inl tc)), (o, .inr (1, [.ref o1, .ref o2, .long co])), (q, .inr (1, [.ref q1, .ref q2, .long (bw_q f2 cb (bw_mc sb T tc))])), (r, .inr (0, [.ref r1])), (o1, .inl (cL, 40, .inr (.inl so))), (o2, .inl (cL, 40, .inr (.inl go))), (q1, .inl (cL, 40, .inr (.inl sb))), (q2, .inl (cL, 40, .inr (.inl (bw_q f2 gb (bw_mg sb T tc gb))))), (r1, .inl (cL, 40, .inr (.inl bl)))]) [0, 1, 2, 3, 4, 5, 6, 7, 8, 9] (by decide) rfl
    exact W.lret (v := bw_rim sb (bw_q f2 gb (bw_mg sb T tc gb)) (bw_q f2 cb (bw_mc sb T tc)) k) hx hb hr (fun t9 ht9 hW9 => ⟨⟨_, (), rfl, rfl, by rw [ht9]; exact hP9, by exact hD9⟩, hS.F ht9⟩) hS.2.2 dB_set_92
  · skip
    exact absurd c_2 (by decide)
set_option maxHeartbeats 4000000 in
set_option maxRecDepth 100000 in
theorem c_set_5 (l : Launch) (dC : Nat → ClassId) (dI : Nat → Nat → Nat) (x t1 o o1 o2 q q1 q2 r r1 : Nat) (cI cL : ClassId) (T : Int64) (tc : Nat → Int32) (so go : Nat → Int64) (co : Int64) (sb gb : Nat → Int64) (cb : Int64) (bl : Nat → Int64) (f1 f2 : Int32) (k : Nat) (hk : k < 40) (sz : Nat) : Met l yB_set wsB_set ({ frames := 6, cells := 0, slots := 0, locals := 141 } : Room) (bw_Wr (dC, dI) [(cI, .int), (cL, .long)] [(x, .inr (2, [.long T, .ref t1, .ref o, .ref q, .ref r, .int f1, .int f2])), (t1, .inl (cI, 40, .inl tc)), (o, .inr (1, [.ref o1, .ref o2, .long co])), (q, .inr (1, [.ref q1, .ref q2, .long cb])), (r, .inr (0, [.ref r1])), (o1, .inl (cL, 40, .inr (.inl so))), (o2, .inl (cL, 40, .inr (.inl go))), (q1, .inl (cL, 40, .inr (.inl sb))), (q2, .inl (cL, 40, .inr (.inl gb))), (r1, .inl (cL, 40, .inr (.inl bl)))] sz [.ref x, .int 5, .int (nI k)]) (va_Ql (S := Unit) (fun r _ => r = (bw_q f1 go (bw_ng so T go)) k) (fun (_ : Unit) t => va_P (dC, dI) vwCl [(x, .inr (2, [.long T, .ref t1, .ref o, .ref q, .ref r, .int 0, .int f2])), (t1, .inl (cI, 40, .inl tc)), (o, .inr (1, [.ref o1, .ref o2, .long (bw_q f1 co (bw_nc so T))])), (q, .inr (1, [.ref q1, .ref q2, .long cb])), (r, .inr (0, [.ref r1])), (o1, .inl (cL, 40, .inr (.inl so))), (o2, .inl (cL, 40, .inr (.inl (bw_q f1 go (bw_ng so T go))))), (q1, .inl (cL, 40, .inr (.inl sb))), (q2, .inl (cL, 40, .inr (.inl gb))), (r1, .inl (cL, 40, .inr (.inl (bw_q f1 bl (bw_nl so sb T go bl)))))] t.heap ∧ va_D (va_A [(x, .inr (2, [.long T, .ref t1, .ref o, .ref q, .ref r, .int f1, .int f2])), (t1, .inl (cI, 40, .inl tc)), (o, .inr (1, [.ref o1, .ref o2, .long co])), (q, .inr (1, [.ref q1, .ref q2, .long cb])), (r, .inr (0, [.ref r1])), (o1, .inl (cL, 40, .inr (.inl so))), (o2, .inl (cL, 40, .inr (.inl go))), (q1, .inl (cL, 40, .inr (.inl sb))), (q2, .inl (cL, 40, .inr (.inl gb))), (r1, .inl (cL, 40, .inr (.inl bl)))] sz) [(x, .inr (2, [.long T, .ref t1, .ref o, .ref q, .ref r, .int 0, .int f2])), (t1, .inl (cI, 40, .inl tc)), (o, .inr (1, [.ref o1, .ref o2, .long (bw_q f1 co (bw_nc so T))])), (q, .inr (1, [.ref q1, .ref q2, .long cb])), (r, .inr (0, [.ref r1])), (o1, .inl (cL, 40, .inr (.inl so))), (o2, .inl (cL, 40, .inr (.inl (bw_q f1 go (bw_ng so T go))))), (q1, .inl (cL, 40, .inr (.inl sb))), (q2, .inl (cL, 40, .inr (.inl gb))), (r1, .inl (cL, 40, .inr (.inl (bw_q f1 bl (bw_nl so sb T go bl)))))]) (va_A [(x, .inr (2, [.long T, .ref t1, .ref o, .ref q, .ref r, .int f1, .int f2])), (t1, .inl (cI, 40, .inl tc)), (o, .inr (1, [.ref o1, .ref o2, .long co])), (q, .inr (1, [.ref q1, .ref q2, .long cb])), (r, .inr (0, [.ref r1])), (o1, .inl (cL, 40, .inr (.inl so))), (o2, .inl (cL, 40, .inr (.inl go))), (q1, .inl (cL, 40, .inr (.inl sb))), (q2, .inl (cL, 40, .inr (.inl gb))), (r1, .inl (cL, 40, .inr (.inl bl)))] sz)) 0 0 (va_A [(x, .inr (2, [.long T, .ref t1, .ref o, .ref q, .ref r, .int f1, .int f2])), (t1, .inl (cI, 40, .inl tc)), (o, .inr (1, [.ref o1, .ref o2, .long co])), (q, .inr (1, [.ref q1, .ref q2, .long cb])), (r, .inr (0, [.ref r1])), (o1, .inl (cL, 40, .inr (.inl so))), (o2, .inl (cL, 40, .inr (.inl go))), (q1, .inl (cL, 40, .inr (.inl sb))), (q2, .inl (cL, 40, .inr (.inl gb))), (r1, .inl (cL, 40, .inr (.inl bl)))] sz) := by
  refine Met.ofW (cc := cB_set) (maxL := 3) (ret := (some .long)) (by decide) rfl ?_
  intro p e s m args below meth c s₁ B hml hv
  obtain ⟨rfl, hsz, hP, hK, hN, hD0⟩ := hv
  have hx := B.exec
  have hb := B.bytes
  have hr := B.returns
  have hts := atoms_spec (ws := wsB_set) B.pre
  have hT : ∀ w ∈ bwB, w.before _ s = true := fun w h => hts w (List.mem_cons_of_mem _ h)
  have hown : s.vm.findClass RB = some m.cls := findClass_of_methodNamed B.named
  have hlocks := B.notSynchronized
  subst hsz
  have hD := hD0.self (sz := s.heap.size)
  generalize hAe : va_A [(x, .inr (2, [.long T, .ref t1, .ref o, .ref q, .ref r, .int f1, .int f2])), (t1, .inl (cI, 40, .inl tc)), (o, .inr (1, [.ref o1, .ref o2, .long co])), (q, .inr (1, [.ref q1, .ref q2, .long cb])), (r, .inr (0, [.ref r1])), (o1, .inl (cL, 40, .inr (.inl so))), (o2, .inl (cL, 40, .inr (.inl go))), (q1, .inl (cL, 40, .inr (.inl sb))), (q2, .inl (cL, 40, .inr (.inl gb))), (r1, .inl (cL, 40, .inr (.inl bl)))] s.heap.size = A at hD ⊢
  have hA : ∀ q : Nat, s.heap.size ≤ q → A q := fun q h => by rw [← hAe]; exact Or.inr h
  have hS : va_S A s.heap s.heap [] := va_S.rf
  have hP : va_P (dC, dI) vwCl [(x, .inr (2, [.long T, .ref t1, .ref o, .ref q, .ref r, .int f1, .int f2])), (t1, .inl (cI, 40, .inl tc)), (o, .inr (1, [.ref o1, .ref o2, .long co])), (q, .inr (1, [.ref q1, .ref q2, .long cb])), (r, .inr (0, [.ref r1])), (o1, .inl (cL, 40, .inr (.inl so))), (o2, .inl (cL, 40, .inr (.inl go))), (q1, .inl (cL, 40, .inr (.inl sb))), (q2, .inl (cL, 40, .inr (.inl gb))), (r1, .inl (cL, 40, .inr (.inl bl)))] s.heap := hP
  have hl := lv_entry ([.ref x, .int 5, .int (nI k)]) (n := 3) (Nat.le_of_ble_eq_true rfl)
  rw [lg_entry_eq]
  generalize (lg_sl ([.ref x, .int 5, .int (nI k)]) ++ List.replicate (3 - (lg_sl ([.ref x, .int 5, .int (nI k)])).length) Slot.unset).toArray = ls at hl ⊢
  have hl : lv_has ls 3 [(0, .ref x), (1, .int 5), (2, .int (nI k))] := hl
  refine lv_iload_n hx hb dB_set_0 rfl (lv_at hl 2 rfl) ?_
  refine vp_callSi (W.runS (As := [.int (nI k)]) (rest := []) ⟨hx, hb, hml, hown, hT⟩ (c_isB1 l k (by omega)) (cwS 1 hT g_B_41 rfl rfl rfl (by decide +kernel) ⟨Nat.le_of_ble_eq_true rfl, Nat.le_of_ble_eq_true rfl⟩) preEq rfl rfl hl.1 rfl (lv_room (Nat.le_of_ble_eq_true rfl)) dB_set_1 ⟨Nat.le_of_ble_eq_true rfl, Nat.le_of_ble_eq_true rfl⟩) (fun r_1 hr_1 => ?_)
  rw [hr_1]; clear hr_1
  refine lv_if_ne (tgt := 9) hx hb dB_set_4 (by decide) (fun c_2 => ?_) (fun c_2 => ?_)
  · skip
    refine lv_iload_n hx hb dB_set_9 rfl (lv_at hl 1 rfl) ?_
    refine lv_tableIn (off := 83) (tgt := 93) hx hb dB_set_10 (by decide) (by decide) (by decide) (by decide) ?_
    refine lv_aload_n hx hb dB_set_93 rfl (lv_at hl 0 rfl) ?_
    have hPc := hP.sub (ws' := [(x, .inr (2, [.long T, .ref t1, .ref o, .ref q, .ref r, .int f1, .int f2])), (t1, .inl (cI, 40, .inl tc)), (o, .inr (1, [.ref o1, .ref o2, .long co])), (q, .inr (1, [.ref q1, .ref q2, .long cb])), (r, .inr (0, [.ref r1])), (o1, .inl (cL, 40, .inr (.inl so))), (o2, .inl (cL, 40, .inr (.inl go))), (q1, .inl (cL, 40, .inr (.inl sb))), (q2, .inl (cL, 40, .inr (.inl gb))), (r1, .inl (cL, 40, .inr (.inl bl)))]) [0, 1, 2, 3, 4, 5, 6, 7, 8, 9] rfl
    have hDc := hD.sub (ws' := [(x, .inr (2, [.long T, .ref t1, .ref o, .ref q, .ref r, .int f1, .int f2])), (t1, .inl (cI, 40, .inl tc)), (o, .inr (1, [.ref o1, .ref o2, .long co])), (q, .inr (1, [.ref q1, .ref q2, .long cb])), (r, .inr (0, [.ref r1])), (o1, .inl (cL, 40, .inr (.inl so))), (o2, .inl (cL, 40, .inr (.inl go))), (q1, .inl (cL, 40, .inr (.inl sb))), (q2, .inl (cL, 40, .inr (.inl gb))), (r1, .inl (cL, 40, .inr (.inl bl)))]) [0, 1, 2, 3, 4, 5, 6, 7, 8, 9] (by decide) rfl
    have hKc := hK.sub (tys' := [(cI, .int), (cL, .long)]) [0, 1] rfl
    have hFc := va_free (wc := [(x, .inr (2, [.long T, .ref t1, .ref o, .ref q, .ref r, .int f1, .int f2])), (t1, .inl (cI, 40, .inl tc)), (o, .inr (1, [.ref o1, .ref o2, .long co])), (q, .inr (1, [.ref q1, .ref q2, .long cb])), (r, .inr (0, [.ref r1])), (o1, .inl (cL, 40, .inr (.inl so))), (o2, .inl (cL, 40, .inr (.inl go))), (q1, .inl (cL, 40, .inr (.inl sb))), (q2, .inl (cL, 40, .inr (.inl gb))), (r1, .inl (cL, 40, .inr (.inl bl)))]) hD hS hA [0, 1, 2, 3, 4, 5, 6, 7, 8, 9] rfl
    refine va_callr (va_runV (As := []) (rest := []) ⟨hx, hb, hml, hown, hT⟩ (c_freshOnward l dC dI x t1 o o1 o2 q q1 q2 r r1 cI cL T tc so go co sb gb cb bl f1 f2 s.heap.size) (cwV 0 hT g_B_78 rfl rfl rfl (by decide +kernel) ⟨Nat.le_of_ble_eq_true rfl, Nat.le_of_ble_eq_true rfl⟩) (bw_qV hPc hKc hN hDc (ci := 2) (q0 := 0) rfl rfl) rfl rfl hl.1 rfl (lv_room (Nat.le_of_ble_eq_true rfl)) dB_set_94 ⟨Nat.le_of_ble_eq_true rfl, Nat.le_of_ble_eq_true rfl⟩) hS (fun q _ h => hFc q h) hFc (fun u_3 ra_3 t_3 H1 locs ht hvm hw_3 hB hz1 hk1 hS => ?_)
    obtain ⟨era, hP1, hD1⟩ := hB
    rw [ht] at hP1
    obtain ⟨hP, hD⟩ := va_join (wr := []) (w1 := [(x, .inr (2, [.long T, .ref t1, .ref o, .ref q, .ref r, .int 0, .int f2])), (t1, .inl (cI, 40, .inl tc)), (o, .inr (1, [.ref o1, .ref o2, .long (bw_q f1 co (bw_nc so T))])), (q, .inr (1, [.ref q1, .ref q2, .long cb])), (r, .inr (0, [.ref r1])), (o1, .inl (cL, 40, .inr (.inl so))), (o2, .inl (cL, 40, .inr (.inl (bw_q f1 go (bw_ng so T go))))), (q1, .inl (cL, 40, .inr (.inl sb))), (q2, .inl (cL, 40, .inr (.inl gb))), (r1, .inl (cL, 40, .inr (.inl (bw_q f1 bl (bw_nl so sb T go bl)))))]) hP hD [0, 1, 2, 3, 4, 5, 6, 7, 8, 9] [] rfl rfl (by decide) (by decide) hk1 hFc hP1 hD1
    generalize H1 = H at hP hS ⊢
    have hP : va_P (dC, dI) vwCl [(x, .inr (2, [.long T, .ref t1, .ref o, .ref q, .ref r, .int 0, .int f2])), (t1, .inl (cI, 40, .inl tc)), (o, .inr (1, [.ref o1, .ref o2, .long (bw_q f1 co (bw_nc so T))])), (q, .inr (1, [.ref q1, .ref q2, .long cb])), (r, .inr (0, [.ref r1])), (o1, .inl (cL, 40, .inr (.inl so))), (o2, .inl (cL, 40, .inr (.inl (bw_q f1 go (bw_ng so T go))))), (q1, .inl (cL, 40, .inr (.inl sb))), (q2, .inl (cL, 40, .inr (.inl gb))), (r1, .inl (cL, 40, .inr (.inl (bw_q f1 bl (bw_nl so sb T go bl)))))] H := hP
    have hD : va_D A [(x, .inr (2, [.long T, .ref t1, .ref o, .ref q, .ref r, .int 0, .int f2])), (t1, .inl (cI, 40, .inl tc)), (o, .inr (1, [.ref o1, .ref o2, .long (bw_q f1 co (bw_nc so T))])), (q, .inr (1, [.ref q1, .ref q2, .long cb])), (r, .inr (0, [.ref r1])), (o1, .inl (cL, 40, .inr (.inl so))), (o2, .inl (cL, 40, .inr (.inl (bw_q f1 go (bw_ng so T go))))), (q1, .inl (cL, 40, .inr (.inl sb))), (q2, .inl (cL, 40, .inr (.inl gb))), (r1, .inl (cL, 40, .inr (.inl (bw_q f1 bl (bw_nl so sb T go bl)))))] := hD
    rw [era]; clear era
    refine lv_iload_n hx hb dB_set_97 rfl (lv_at hl 2 rfl) ?_
    have hPc := hP.sub (ws' := [(o, .inr (1, [.ref o1, .ref o2, .long (bw_q f1 co (bw_nc so T))])), (o1, .inl (cL, 40, .inr (.inl so))), (o2, .inl (cL, 40, .inr (.inl (bw_q f1 go (bw_ng so T go)))))]) [2, 5, 6] rfl
    have hKc := hK.sub (tys' := [(cL, .long)]) [1] rfl
    refine vp_callSl (W.runV (As := [.int (nI k)]) (rest := []) ⟨hx, hb, hml, hown, hT⟩ (c_gated l dC dI o o1 o2 cL so (bw_q f1 go (bw_ng so T go)) (bw_q f1 co (bw_nc so T)) k (by omega)) (cwV 1 hT g_B_117 rfl rfl rfl (by decide +kernel) ⟨Nat.le_of_ble_eq_true rfl, Nat.le_of_ble_eq_true rfl⟩) (bw_pV hPc hKc hN (ci := 1) (q0 := 0) rfl rfl) rfl rfl hl.1 rfl (lv_room (Nat.le_of_ble_eq_true rfl)) dB_set_98 ⟨Nat.le_of_ble_eq_true rfl, Nat.le_of_ble_eq_true rfl⟩) (fun r_4 hr_4 => ?_)
    rw [hr_4]; clear hr_4
    have hP9 := hP.sub (ws' := [(x, .inr (2, [.long T, .ref t1, .ref o, .ref q, .ref r, .int 0, .int f2])), (t1, .inl (cI, 40, .inl tc)), (o, .inr (1, [.ref o1, .ref o2, .long (bw_q f1 co (bw_nc so T))])), (q, .inr (1, [.ref q1, .ref q2, .long cb])), (r, .inr (0, [.ref r1])), (o1, .inl (cL, 40, .inr (.inl so))), (o2, .inl (cL, 40, .inr (.inl (bw_q f1 go (bw_ng so T go))))), (q1, .inl (cL, 40, .inr (.inl sb))), (q2, .inl (cL, 40, .inr (.inl gb))), (r1, .inl (cL, 40, .inr (.inl (bw_q f1 bl (bw_nl so sb T go bl)))))]) [0, 1, 2, 3, 4, 5, 6, 7, 8, 9] rfl
    have hD9 := hD.sub (ws' := [(x, .inr (2, [.long T, .ref t1, .ref o, .ref q, .ref r, .int 0, .int f2])), (t1, .inl (cI, 40, .inl tc)), (o, .inr (1, [.ref o1, .ref o2, .long (bw_q f1 co (bw_nc so T))])), (q, .inr (1, [.ref q1, .ref q2, .long cb])), (r, .inr (0, [.ref r1])), (o1, .inl (cL, 40, .inr (.inl so))), (o2, .inl (cL, 40, .inr (.inl (bw_q f1 go (bw_ng so T go))))), (q1, .inl (cL, 40, .inr (.inl sb))), (q2, .inl (cL, 40, .inr (.inl gb))), (r1, .inl (cL, 40, .inr (.inl (bw_q f1 bl (bw_nl so sb T go bl)))))]) [0, 1, 2, 3, 4, 5, 6, 7, 8, 9] (by decide) rfl
    exact W.lret (v := (bw_q f1 go (bw_ng so T go)) k) hx hb hr (fun t9 ht9 hW9 => ⟨⟨_, (), rfl, rfl, by rw [ht9]; exact hP9, by exact hD9⟩, hS.F ht9⟩) hS.2.2 dB_set_101
  · skip
    exact absurd c_2 (by decide)
set_option maxHeartbeats 4000000 in
set_option maxRecDepth 100000 in
theorem c_depth0 (l : Launch) (dC : Nat → ClassId) (dI : Nat → Nat → Nat) (x t1 o o1 o2 q q1 q2 r r1 : Nat) (cI cL : ClassId) (T : Int64) (tc : Nat → Int32) (so go : Nat → Int64) (co : Int64) (sb gb : Nat → Int64) (cb : Int64) (bl : Nat → Int64) (f1 f2 : Int32) (b : Int32) (hb9 : ∀ k, k < 40 → ¬ b = nI k) (sz : Nat) : Met l yB_depth wsB_depth ({ frames := 1, cells := 0, slots := 0, locals := 20 } : Room) (bw_Wr (dC, dI) [(cI, .int), (cL, .long)] [(x, .inr (2, [.long T, .ref t1, .ref o, .ref q, .ref r, .int f1, .int f2])), (t1, .inl (cI, 40, .inl tc)), (o, .inr (1, [.ref o1, .ref o2, .long co])), (q, .inr (1, [.ref q1, .ref q2, .long cb])), (r, .inr (0, [.ref r1])), (o1, .inl (cL, 40, .inr (.inl so))), (o2, .inl (cL, 40, .inr (.inl go))), (q1, .inl (cL, 40, .inr (.inl sb))), (q2, .inl (cL, 40, .inr (.inl gb))), (r1, .inl (cL, 40, .inr (.inl bl)))] sz [.ref x, .int b]) (va_Qi (S := Unit) (fun r _ => r = (-1 : Int32)) (fun (_ : Unit) t => va_P (dC, dI) vwCl [(x, .inr (2, [.long T, .ref t1, .ref o, .ref q, .ref r, .int f1, .int f2])), (t1, .inl (cI, 40, .inl tc)), (o, .inr (1, [.ref o1, .ref o2, .long co])), (q, .inr (1, [.ref q1, .ref q2, .long cb])), (r, .inr (0, [.ref r1])), (o1, .inl (cL, 40, .inr (.inl so))), (o2, .inl (cL, 40, .inr (.inl go))), (q1, .inl (cL, 40, .inr (.inl sb))), (q2, .inl (cL, 40, .inr (.inl gb))), (r1, .inl (cL, 40, .inr (.inl bl)))] t.heap ∧ va_D (va_A [(x, .inr (2, [.long T, .ref t1, .ref o, .ref q, .ref r, .int f1, .int f2])), (t1, .inl (cI, 40, .inl tc)), (o, .inr (1, [.ref o1, .ref o2, .long co])), (q, .inr (1, [.ref q1, .ref q2, .long cb])), (r, .inr (0, [.ref r1])), (o1, .inl (cL, 40, .inr (.inl so))), (o2, .inl (cL, 40, .inr (.inl go))), (q1, .inl (cL, 40, .inr (.inl sb))), (q2, .inl (cL, 40, .inr (.inl gb))), (r1, .inl (cL, 40, .inr (.inl bl)))] sz) [(x, .inr (2, [.long T, .ref t1, .ref o, .ref q, .ref r, .int f1, .int f2])), (t1, .inl (cI, 40, .inl tc)), (o, .inr (1, [.ref o1, .ref o2, .long co])), (q, .inr (1, [.ref q1, .ref q2, .long cb])), (r, .inr (0, [.ref r1])), (o1, .inl (cL, 40, .inr (.inl so))), (o2, .inl (cL, 40, .inr (.inl go))), (q1, .inl (cL, 40, .inr (.inl sb))), (q2, .inl (cL, 40, .inr (.inl gb))), (r1, .inl (cL, 40, .inr (.inl bl)))]) (va_A [(x, .inr (2, [.long T, .ref t1, .ref o, .ref q, .ref r, .int f1, .int f2])), (t1, .inl (cI, 40, .inl tc)), (o, .inr (1, [.ref o1, .ref o2, .long co])), (q, .inr (1, [.ref q1, .ref q2, .long cb])), (r, .inr (0, [.ref r1])), (o1, .inl (cL, 40, .inr (.inl so))), (o2, .inl (cL, 40, .inr (.inl go))), (q1, .inl (cL, 40, .inr (.inl sb))), (q2, .inl (cL, 40, .inr (.inl gb))), (r1, .inl (cL, 40, .inr (.inl bl)))] sz)) 0 0 (va_A [(x, .inr (2, [.long T, .ref t1, .ref o, .ref q, .ref r, .int f1, .int f2])), (t1, .inl (cI, 40, .inl tc)), (o, .inr (1, [.ref o1, .ref o2, .long co])), (q, .inr (1, [.ref q1, .ref q2, .long cb])), (r, .inr (0, [.ref r1])), (o1, .inl (cL, 40, .inr (.inl so))), (o2, .inl (cL, 40, .inr (.inl go))), (q1, .inl (cL, 40, .inr (.inl sb))), (q2, .inl (cL, 40, .inr (.inl gb))), (r1, .inl (cL, 40, .inr (.inl bl)))] sz) := by
  refine Met.ofW (cc := cB_depth) (maxL := 2) (ret := (some .int)) (by decide) rfl ?_
  intro p e s m args below meth c s₁ B hml hv
  obtain ⟨rfl, hsz, hP, hK, hN, hD0⟩ := hv
  have hx := B.exec
  have hb := B.bytes
  have hr := B.returns
  have hts := atoms_spec (ws := wsB_depth) B.pre
  have hT : ∀ w ∈ bwB, w.before _ s = true := fun w h => hts w (List.mem_cons_of_mem _ h)
  have hown : s.vm.findClass RB = some m.cls := findClass_of_methodNamed B.named
  have hlocks := B.notSynchronized
  subst hsz
  have hD := hD0.self (sz := s.heap.size)
  generalize hAe : va_A [(x, .inr (2, [.long T, .ref t1, .ref o, .ref q, .ref r, .int f1, .int f2])), (t1, .inl (cI, 40, .inl tc)), (o, .inr (1, [.ref o1, .ref o2, .long co])), (q, .inr (1, [.ref q1, .ref q2, .long cb])), (r, .inr (0, [.ref r1])), (o1, .inl (cL, 40, .inr (.inl so))), (o2, .inl (cL, 40, .inr (.inl go))), (q1, .inl (cL, 40, .inr (.inl sb))), (q2, .inl (cL, 40, .inr (.inl gb))), (r1, .inl (cL, 40, .inr (.inl bl)))] s.heap.size = A at hD ⊢
  have hA : ∀ q : Nat, s.heap.size ≤ q → A q := fun q h => by rw [← hAe]; exact Or.inr h
  have hS : va_S A s.heap s.heap [] := va_S.rf
  have hP : va_P (dC, dI) vwCl [(x, .inr (2, [.long T, .ref t1, .ref o, .ref q, .ref r, .int f1, .int f2])), (t1, .inl (cI, 40, .inl tc)), (o, .inr (1, [.ref o1, .ref o2, .long co])), (q, .inr (1, [.ref q1, .ref q2, .long cb])), (r, .inr (0, [.ref r1])), (o1, .inl (cL, 40, .inr (.inl so))), (o2, .inl (cL, 40, .inr (.inl go))), (q1, .inl (cL, 40, .inr (.inl sb))), (q2, .inl (cL, 40, .inr (.inl gb))), (r1, .inl (cL, 40, .inr (.inl bl)))] s.heap := hP
  have hl := lv_entry ([.ref x, .int b]) (n := 2) (Nat.le_of_ble_eq_true rfl)
  rw [lg_entry_eq]
  generalize (lg_sl ([.ref x, .int b]) ++ List.replicate (2 - (lg_sl ([.ref x, .int b])).length) Slot.unset).toArray = ls at hl ⊢
  have hl : lv_has ls 2 [(0, .ref x), (1, .int b)] := hl
  refine lv_iload_n hx hb dB_depth_0 rfl (lv_at hl 1 rfl) ?_
  refine vp_callSi (W.runS (As := [.int b]) (rest := []) ⟨hx, hb, hml, hown, hT⟩ (c_isB0 l b hb9) (cwS 1 hT g_B_41 rfl rfl rfl (by decide +kernel) ⟨Nat.le_of_ble_eq_true rfl, Nat.le_of_ble_eq_true rfl⟩) preEq rfl rfl hl.1 rfl (lv_room (Nat.le_of_ble_eq_true rfl)) dB_depth_1 ⟨Nat.le_of_ble_eq_true rfl, Nat.le_of_ble_eq_true rfl⟩) (fun r_1 hr_1 => ?_)
  rw [hr_1]; clear hr_1
  refine lv_if_eq (tgt := 21) hx hb dB_depth_4 (by decide) (fun c_2 => ?_) (fun c_2 => ?_)
  · skip
    refine lv_iconst (v := -1) hx hb dB_depth_21 (by decide) ?_
    have hP9 := hP.sub (ws' := [(x, .inr (2, [.long T, .ref t1, .ref o, .ref q, .ref r, .int f1, .int f2])), (t1, .inl (cI, 40, .inl tc)), (o, .inr (1, [.ref o1, .ref o2, .long co])), (q, .inr (1, [.ref q1, .ref q2, .long cb])), (r, .inr (0, [.ref r1])), (o1, .inl (cL, 40, .inr (.inl so))), (o2, .inl (cL, 40, .inr (.inl go))), (q1, .inl (cL, 40, .inr (.inl sb))), (q2, .inl (cL, 40, .inr (.inl gb))), (r1, .inl (cL, 40, .inr (.inl bl)))]) [0, 1, 2, 3, 4, 5, 6, 7, 8, 9] rfl
    have hD9 := hD.sub (ws' := [(x, .inr (2, [.long T, .ref t1, .ref o, .ref q, .ref r, .int f1, .int f2])), (t1, .inl (cI, 40, .inl tc)), (o, .inr (1, [.ref o1, .ref o2, .long co])), (q, .inr (1, [.ref q1, .ref q2, .long cb])), (r, .inr (0, [.ref r1])), (o1, .inl (cL, 40, .inr (.inl so))), (o2, .inl (cL, 40, .inr (.inl go))), (q1, .inl (cL, 40, .inr (.inl sb))), (q2, .inl (cL, 40, .inr (.inl gb))), (r1, .inl (cL, 40, .inr (.inl bl)))]) [0, 1, 2, 3, 4, 5, 6, 7, 8, 9] (by decide) rfl
    exact W.iret (v := -1) hx hb hr (fun t9 ht9 hW9 => ⟨⟨_, (), rfl, rfl, by rw [ht9]; exact hP9, by exact hD9⟩, hS.F ht9⟩) hS.2.2 dB_depth_22
  · skip
    exact absurd rfl c_2
set_option maxHeartbeats 4000000 in
set_option maxRecDepth 100000 in
theorem c_depth1 (l : Launch) (dC : Nat → ClassId) (dI : Nat → Nat → Nat) (x t1 o o1 o2 q q1 q2 r r1 : Nat) (cI cL : ClassId) (T : Int64) (tc : Nat → Int32) (so go : Nat → Int64) (co : Int64) (sb gb : Nat → Int64) (cb : Int64) (bl : Nat → Int64) (f1 f2 : Int32) (k : Nat) (hk : k < 40) (sz : Nat) : Met l yB_depth wsB_depth ({ frames := 6, cells := 0, slots := 0, locals := 141 } : Room) (bw_Wr (dC, dI) [(cI, .int), (cL, .long)] [(x, .inr (2, [.long T, .ref t1, .ref o, .ref q, .ref r, .int f1, .int f2])), (t1, .inl (cI, 40, .inl tc)), (o, .inr (1, [.ref o1, .ref o2, .long co])), (q, .inr (1, [.ref q1, .ref q2, .long cb])), (r, .inr (0, [.ref r1])), (o1, .inl (cL, 40, .inr (.inl so))), (o2, .inl (cL, 40, .inr (.inl go))), (q1, .inl (cL, 40, .inr (.inl sb))), (q2, .inl (cL, 40, .inr (.inl gb))), (r1, .inl (cL, 40, .inr (.inl bl)))] sz [.ref x, .int (nI k)]) (va_Qi (S := Unit) (fun r _ => r = if bw_m (bw_q f1 co (bw_nc so T)) k = true then nI (bw_N (fun h => bw_m ((bw_q f1 bl (bw_nl so sb T go bl)) h) k) 40) else -1) (fun (_ : Unit) t => va_P (dC, dI) vwCl [(x, .inr (2, [.long T, .ref t1, .ref o, .ref q, .ref r, .int 0, .int f2])), (t1, .inl (cI, 40, .inl tc)), (o, .inr (1, [.ref o1, .ref o2, .long (bw_q f1 co (bw_nc so T))])), (q, .inr (1, [.ref q1, .ref q2, .long cb])), (r, .inr (0, [.ref r1])), (o1, .inl (cL, 40, .inr (.inl so))), (o2, .inl (cL, 40, .inr (.inl (bw_q f1 go (bw_ng so T go))))), (q1, .inl (cL, 40, .inr (.inl sb))), (q2, .inl (cL, 40, .inr (.inl gb))), (r1, .inl (cL, 40, .inr (.inl (bw_q f1 bl (bw_nl so sb T go bl)))))] t.heap ∧ va_D (va_A [(x, .inr (2, [.long T, .ref t1, .ref o, .ref q, .ref r, .int f1, .int f2])), (t1, .inl (cI, 40, .inl tc)), (o, .inr (1, [.ref o1, .ref o2, .long co])), (q, .inr (1, [.ref q1, .ref q2, .long cb])), (r, .inr (0, [.ref r1])), (o1, .inl (cL, 40, .inr (.inl so))), (o2, .inl (cL, 40, .inr (.inl go))), (q1, .inl (cL, 40, .inr (.inl sb))), (q2, .inl (cL, 40, .inr (.inl gb))), (r1, .inl (cL, 40, .inr (.inl bl)))] sz) [(x, .inr (2, [.long T, .ref t1, .ref o, .ref q, .ref r, .int 0, .int f2])), (t1, .inl (cI, 40, .inl tc)), (o, .inr (1, [.ref o1, .ref o2, .long (bw_q f1 co (bw_nc so T))])), (q, .inr (1, [.ref q1, .ref q2, .long cb])), (r, .inr (0, [.ref r1])), (o1, .inl (cL, 40, .inr (.inl so))), (o2, .inl (cL, 40, .inr (.inl (bw_q f1 go (bw_ng so T go))))), (q1, .inl (cL, 40, .inr (.inl sb))), (q2, .inl (cL, 40, .inr (.inl gb))), (r1, .inl (cL, 40, .inr (.inl (bw_q f1 bl (bw_nl so sb T go bl)))))]) (va_A [(x, .inr (2, [.long T, .ref t1, .ref o, .ref q, .ref r, .int f1, .int f2])), (t1, .inl (cI, 40, .inl tc)), (o, .inr (1, [.ref o1, .ref o2, .long co])), (q, .inr (1, [.ref q1, .ref q2, .long cb])), (r, .inr (0, [.ref r1])), (o1, .inl (cL, 40, .inr (.inl so))), (o2, .inl (cL, 40, .inr (.inl go))), (q1, .inl (cL, 40, .inr (.inl sb))), (q2, .inl (cL, 40, .inr (.inl gb))), (r1, .inl (cL, 40, .inr (.inl bl)))] sz)) 0 0 (va_A [(x, .inr (2, [.long T, .ref t1, .ref o, .ref q, .ref r, .int f1, .int f2])), (t1, .inl (cI, 40, .inl tc)), (o, .inr (1, [.ref o1, .ref o2, .long co])), (q, .inr (1, [.ref q1, .ref q2, .long cb])), (r, .inr (0, [.ref r1])), (o1, .inl (cL, 40, .inr (.inl so))), (o2, .inl (cL, 40, .inr (.inl go))), (q1, .inl (cL, 40, .inr (.inl sb))), (q2, .inl (cL, 40, .inr (.inl gb))), (r1, .inl (cL, 40, .inr (.inl bl)))] sz) := by
  refine Met.ofW (cc := cB_depth) (maxL := 2) (ret := (some .int)) (by decide) rfl ?_
  intro p e s m args below meth c s₁ B hml hv
  obtain ⟨rfl, hsz, hP, hK, hN, hD0⟩ := hv
  have hx := B.exec
  have hb := B.bytes
  have hr := B.returns
  have hts := atoms_spec (ws := wsB_depth) B.pre
  have hT : ∀ w ∈ bwB, w.before _ s = true := fun w h => hts w (List.mem_cons_of_mem _ h)
  have hown : s.vm.findClass RB = some m.cls := findClass_of_methodNamed B.named
  have hlocks := B.notSynchronized
  subst hsz
  have hD := hD0.self (sz := s.heap.size)
  generalize hAe : va_A [(x, .inr (2, [.long T, .ref t1, .ref o, .ref q, .ref r, .int f1, .int f2])), (t1, .inl (cI, 40, .inl tc)), (o, .inr (1, [.ref o1, .ref o2, .long co])), (q, .inr (1, [.ref q1, .ref q2, .long cb])), (r, .inr (0, [.ref r1])), (o1, .inl (cL, 40, .inr (.inl so))), (o2, .inl (cL, 40, .inr (.inl go))), (q1, .inl (cL, 40, .inr (.inl sb))), (q2, .inl (cL, 40, .inr (.inl gb))), (r1, .inl (cL, 40, .inr (.inl bl)))] s.heap.size = A at hD ⊢
  have hA : ∀ q : Nat, s.heap.size ≤ q → A q := fun q h => by rw [← hAe]; exact Or.inr h
  have hS : va_S A s.heap s.heap [] := va_S.rf
  have hP : va_P (dC, dI) vwCl [(x, .inr (2, [.long T, .ref t1, .ref o, .ref q, .ref r, .int f1, .int f2])), (t1, .inl (cI, 40, .inl tc)), (o, .inr (1, [.ref o1, .ref o2, .long co])), (q, .inr (1, [.ref q1, .ref q2, .long cb])), (r, .inr (0, [.ref r1])), (o1, .inl (cL, 40, .inr (.inl so))), (o2, .inl (cL, 40, .inr (.inl go))), (q1, .inl (cL, 40, .inr (.inl sb))), (q2, .inl (cL, 40, .inr (.inl gb))), (r1, .inl (cL, 40, .inr (.inl bl)))] s.heap := hP
  have hl := lv_entry ([.ref x, .int (nI k)]) (n := 2) (Nat.le_of_ble_eq_true rfl)
  rw [lg_entry_eq]
  generalize (lg_sl ([.ref x, .int (nI k)]) ++ List.replicate (2 - (lg_sl ([.ref x, .int (nI k)])).length) Slot.unset).toArray = ls at hl ⊢
  have hl : lv_has ls 2 [(0, .ref x), (1, .int (nI k))] := hl
  refine lv_iload_n hx hb dB_depth_0 rfl (lv_at hl 1 rfl) ?_
  refine vp_callSi (W.runS (As := [.int (nI k)]) (rest := []) ⟨hx, hb, hml, hown, hT⟩ (c_isB1 l k (by omega)) (cwS 1 hT g_B_41 rfl rfl rfl (by decide +kernel) ⟨Nat.le_of_ble_eq_true rfl, Nat.le_of_ble_eq_true rfl⟩) preEq rfl rfl hl.1 rfl (lv_room (Nat.le_of_ble_eq_true rfl)) dB_depth_1 ⟨Nat.le_of_ble_eq_true rfl, Nat.le_of_ble_eq_true rfl⟩) (fun r_1 hr_1 => ?_)
  rw [hr_1]; clear hr_1
  refine lv_if_eq (tgt := 21) hx hb dB_depth_4 (by decide) (fun c_2 => ?_) (fun c_2 => ?_)
  · skip
    exact absurd c_2 (by decide)
  · skip
    refine lv_aload_n hx hb dB_depth_7 rfl (lv_at hl 0 rfl) ?_
    have hPc := hP.sub (ws' := [(x, .inr (2, [.long T, .ref t1, .ref o, .ref q, .ref r, .int f1, .int f2])), (t1, .inl (cI, 40, .inl tc)), (o, .inr (1, [.ref o1, .ref o2, .long co])), (q, .inr (1, [.ref q1, .ref q2, .long cb])), (r, .inr (0, [.ref r1])), (o1, .inl (cL, 40, .inr (.inl so))), (o2, .inl (cL, 40, .inr (.inl go))), (q1, .inl (cL, 40, .inr (.inl sb))), (q2, .inl (cL, 40, .inr (.inl gb))), (r1, .inl (cL, 40, .inr (.inl bl)))]) [0, 1, 2, 3, 4, 5, 6, 7, 8, 9] rfl
    have hDc := hD.sub (ws' := [(x, .inr (2, [.long T, .ref t1, .ref o, .ref q, .ref r, .int f1, .int f2])), (t1, .inl (cI, 40, .inl tc)), (o, .inr (1, [.ref o1, .ref o2, .long co])), (q, .inr (1, [.ref q1, .ref q2, .long cb])), (r, .inr (0, [.ref r1])), (o1, .inl (cL, 40, .inr (.inl so))), (o2, .inl (cL, 40, .inr (.inl go))), (q1, .inl (cL, 40, .inr (.inl sb))), (q2, .inl (cL, 40, .inr (.inl gb))), (r1, .inl (cL, 40, .inr (.inl bl)))]) [0, 1, 2, 3, 4, 5, 6, 7, 8, 9] (by decide) rfl
    have hKc := hK.sub (tys' := [(cI, .int), (cL, .long)]) [0, 1] rfl
    have hFc := va_free (wc := [(x, .inr (2, [.long T, .ref t1, .ref o, .ref q, .ref r, .int f1, .int f2])), (t1, .inl (cI, 40, .inl tc)), (o, .inr (1, [.ref o1, .ref o2, .long co])), (q, .inr (1, [.ref q1, .ref q2, .long cb])), (r, .inr (0, [.ref r1])), (o1, .inl (cL, 40, .inr (.inl so))), (o2, .inl (cL, 40, .inr (.inl go))), (q1, .inl (cL, 40, .inr (.inl sb))), (q2, .inl (cL, 40, .inr (.inl gb))), (r1, .inl (cL, 40, .inr (.inl bl)))]) hD hS hA [0, 1, 2, 3, 4, 5, 6, 7, 8, 9] rfl
    refine va_callr (va_runV (As := []) (rest := []) ⟨hx, hb, hml, hown, hT⟩ (c_freshOnward l dC dI x t1 o o1 o2 q q1 q2 r r1 cI cL T tc so go co sb gb cb bl f1 f2 s.heap.size) (cwV 0 hT g_B_78 rfl rfl rfl (by decide +kernel) ⟨Nat.le_of_ble_eq_true rfl, Nat.le_of_ble_eq_true rfl⟩) (bw_qV hPc hKc hN hDc (ci := 2) (q0 := 0) rfl rfl) rfl rfl hl.1 rfl (lv_room (Nat.le_of_ble_eq_true rfl)) dB_depth_8 ⟨Nat.le_of_ble_eq_true rfl, Nat.le_of_ble_eq_true rfl⟩) hS (fun q _ h => hFc q h) hFc (fun u_3 ra_3 t_3 H1 locs ht hvm hw_3 hB hz1 hk1 hS => ?_)
    obtain ⟨era, hP1, hD1⟩ := hB
    rw [ht] at hP1
    obtain ⟨hP, hD⟩ := va_join (wr := []) (w1 := [(x, .inr (2, [.long T, .ref t1, .ref o, .ref q, .ref r, .int 0, .int f2])), (t1, .inl (cI, 40, .inl tc)), (o, .inr (1, [.ref o1, .ref o2, .long (bw_q f1 co (bw_nc so T))])), (q, .inr (1, [.ref q1, .ref q2, .long cb])), (r, .inr (0, [.ref r1])), (o1, .inl (cL, 40, .inr (.inl so))), (o2, .inl (cL, 40, .inr (.inl (bw_q f1 go (bw_ng so T go))))), (q1, .inl (cL, 40, .inr (.inl sb))), (q2, .inl (cL, 40, .inr (.inl gb))), (r1, .inl (cL, 40, .inr (.inl (bw_q f1 bl (bw_nl so sb T go bl)))))]) hP hD [0, 1, 2, 3, 4, 5, 6, 7, 8, 9] [] rfl rfl (by decide) (by decide) hk1 hFc hP1 hD1
    generalize H1 = H at hP hS ⊢
    have hP : va_P (dC, dI) vwCl [(x, .inr (2, [.long T, .ref t1, .ref o, .ref q, .ref r, .int 0, .int f2])), (t1, .inl (cI, 40, .inl tc)), (o, .inr (1, [.ref o1, .ref o2, .long (bw_q f1 co (bw_nc so T))])), (q, .inr (1, [.ref q1, .ref q2, .long cb])), (r, .inr (0, [.ref r1])), (o1, .inl (cL, 40, .inr (.inl so))), (o2, .inl (cL, 40, .inr (.inl (bw_q f1 go (bw_ng so T go))))), (q1, .inl (cL, 40, .inr (.inl sb))), (q2, .inl (cL, 40, .inr (.inl gb))), (r1, .inl (cL, 40, .inr (.inl (bw_q f1 bl (bw_nl so sb T go bl)))))] H := hP
    have hD : va_D A [(x, .inr (2, [.long T, .ref t1, .ref o, .ref q, .ref r, .int 0, .int f2])), (t1, .inl (cI, 40, .inl tc)), (o, .inr (1, [.ref o1, .ref o2, .long (bw_q f1 co (bw_nc so T))])), (q, .inr (1, [.ref q1, .ref q2, .long cb])), (r, .inr (0, [.ref r1])), (o1, .inl (cL, 40, .inr (.inl so))), (o2, .inl (cL, 40, .inr (.inl (bw_q f1 go (bw_ng so T go))))), (q1, .inl (cL, 40, .inr (.inl sb))), (q2, .inl (cL, 40, .inr (.inl gb))), (r1, .inl (cL, 40, .inr (.inl (bw_q f1 bl (bw_nl so sb T go bl)))))] := hD
    rw [era]; clear era
    have hPc := hP.sub (ws' := [(o, .inr (1, [.ref o1, .ref o2, .long (bw_q f1 co (bw_nc so T))])), (o1, .inl (cL, 40, .inr (.inl so))), (o2, .inl (cL, 40, .inr (.inl (bw_q f1 go (bw_ng so T go)))))]) [2, 5, 6] rfl
    have hKc := hK.sub (tys' := [(cL, .long)]) [1] rfl
    refine vp_callSl (W.runV (As := []) (rest := []) ⟨hx, hb, hml, hown, hT⟩ (c_covered l dC dI o o1 o2 cL so (bw_q f1 go (bw_ng so T go)) (bw_q f1 co (bw_nc so T))) (cwV 0 hT g_B_82 rfl rfl rfl (by decide +kernel) ⟨Nat.le_of_ble_eq_true rfl, Nat.le_of_ble_eq_true rfl⟩) (bw_pV hPc hKc hN (ci := 1) (q0 := 0) rfl rfl) rfl rfl hl.1 rfl (lv_room (Nat.le_of_ble_eq_true rfl)) dB_depth_11 ⟨Nat.le_of_ble_eq_true rfl, Nat.le_of_ble_eq_true rfl⟩) (fun r_4 hr_4 => ?_)
    rw [hr_4]; clear hr_4
    refine lv_iload_n hx hb dB_depth_14 rfl (lv_at hl 1 rfl) ?_
    refine vp_callSi (W.runS (As := [.long (bw_q f1 co (bw_nc so T)), .int (nI k)]) (rest := []) ⟨hx, hb, hml, hown, hT⟩ (c_has l (bw_q f1 co (bw_nc so T)) k (by omega)) (cwS 2 hT g_B_45 rfl rfl rfl (by decide +kernel) ⟨Nat.le_of_ble_eq_true rfl, Nat.le_of_ble_eq_true rfl⟩) preEq rfl rfl hl.1 rfl (lv_room (Nat.le_of_ble_eq_true rfl)) dB_depth_15 ⟨Nat.le_of_ble_eq_true rfl, Nat.le_of_ble_eq_true rfl⟩) (fun r_5 hr_5 => ?_)
    rw [hr_5]; clear hr_5
    refine lv_if_ne (tgt := 23) hx hb dB_depth_18 (by decide) (fun c_6 => ?_) (fun c_6 => ?_)
    · skip
      have c_6 := bw_in0 c_6
      refine lv_aload_n hx hb dB_depth_23 rfl (lv_at hl 0 rfl) ?_
      have hPc := hP.sub (ws' := [(x, .inr (2, [.long T, .ref t1, .ref o, .ref q, .ref r, .int 0, .int f2])), (t1, .inl (cI, 40, .inl tc)), (o, .inr (1, [.ref o1, .ref o2, .long (bw_q f1 co (bw_nc so T))])), (q, .inr (1, [.ref q1, .ref q2, .long cb])), (r, .inr (0, [.ref r1])), (o1, .inl (cL, 40, .inr (.inl so))), (o2, .inl (cL, 40, .inr (.inl (bw_q f1 go (bw_ng so T go))))), (q1, .inl (cL, 40, .inr (.inl sb))), (q2, .inl (cL, 40, .inr (.inl gb))), (r1, .inl (cL, 40, .inr (.inl (bw_q f1 bl (bw_nl so sb T go bl)))))]) [0, 1, 2, 3, 4, 5, 6, 7, 8, 9] rfl
      have hDc := hD.sub (ws' := [(x, .inr (2, [.long T, .ref t1, .ref o, .ref q, .ref r, .int 0, .int f2])), (t1, .inl (cI, 40, .inl tc)), (o, .inr (1, [.ref o1, .ref o2, .long (bw_q f1 co (bw_nc so T))])), (q, .inr (1, [.ref q1, .ref q2, .long cb])), (r, .inr (0, [.ref r1])), (o1, .inl (cL, 40, .inr (.inl so))), (o2, .inl (cL, 40, .inr (.inl (bw_q f1 go (bw_ng so T go))))), (q1, .inl (cL, 40, .inr (.inl sb))), (q2, .inl (cL, 40, .inr (.inl gb))), (r1, .inl (cL, 40, .inr (.inl (bw_q f1 bl (bw_nl so sb T go bl)))))]) [0, 1, 2, 3, 4, 5, 6, 7, 8, 9] (by decide) rfl
      have hKc := hK.sub (tys' := [(cI, .int), (cL, .long)]) [0, 1] rfl
      have hFc := va_free (wc := [(x, .inr (2, [.long T, .ref t1, .ref o, .ref q, .ref r, .int 0, .int f2])), (t1, .inl (cI, 40, .inl tc)), (o, .inr (1, [.ref o1, .ref o2, .long (bw_q f1 co (bw_nc so T))])), (q, .inr (1, [.ref q1, .ref q2, .long cb])), (r, .inr (0, [.ref r1])), (o1, .inl (cL, 40, .inr (.inl so))), (o2, .inl (cL, 40, .inr (.inl (bw_q f1 go (bw_ng so T go))))), (q1, .inl (cL, 40, .inr (.inl sb))), (q2, .inl (cL, 40, .inr (.inl gb))), (r1, .inl (cL, 40, .inr (.inl (bw_q f1 bl (bw_nl so sb T go bl)))))]) hD hS hA [0, 1, 2, 3, 4, 5, 6, 7, 8, 9] rfl
      refine va_callr (va_runV (As := []) (rest := []) ⟨hx, hb, hml, hown, hT⟩ (c_fR0 l dC dI x t1 o o1 o2 q q1 q2 r r1 cI cL T tc so (bw_q f1 go (bw_ng so T go)) (bw_q f1 co (bw_nc so T)) sb gb cb (bw_q f1 bl (bw_nl so sb T go bl)) f2 H.size) (cwV 0 hT g_B_89 rfl rfl rfl (by decide +kernel) ⟨Nat.le_of_ble_eq_true rfl, Nat.le_of_ble_eq_true rfl⟩) (bw_qV hPc hKc hN hDc (ci := 2) (q0 := 0) rfl rfl) rfl rfl hl.1 rfl (lv_room (Nat.le_of_ble_eq_true rfl)) dB_depth_24 ⟨Nat.le_of_ble_eq_true rfl, Nat.le_of_ble_eq_true rfl⟩) hS (fun q _ h => hFc q h) hFc (fun u_7 ra_7 t_7 H1 locs ht hvm hw_7 hB hz1 hk1 hS => ?_)
      obtain ⟨era, hP1, hD1⟩ := hB
      rw [ht] at hP1
      obtain ⟨hP, hD⟩ := va_join (wr := []) (w1 := [(x, .inr (2, [.long T, .ref t1, .ref o, .ref q, .ref r, .int 0, .int f2])), (t1, .inl (cI, 40, .inl tc)), (o, .inr (1, [.ref o1, .ref o2, .long (bw_q f1 co (bw_nc so T))])), (q, .inr (1, [.ref q1, .ref q2, .long cb])), (r, .inr (0, [.ref r1])), (o1, .inl (cL, 40, .inr (.inl so))), (o2, .inl (cL, 40, .inr (.inl (bw_q f1 go (bw_ng so T go))))), (q1, .inl (cL, 40, .inr (.inl sb))), (q2, .inl (cL, 40, .inr (.inl gb))), (r1, .inl (cL, 40, .inr (.inl (bw_q f1 bl (bw_nl so sb T go bl)))))]) hP hD [0, 1, 2, 3, 4, 5, 6, 7, 8, 9] [] rfl rfl (by decide) (by decide) hk1 hFc hP1 hD1
      generalize H1 = H at hP hS ⊢
      have hP : va_P (dC, dI) vwCl [(x, .inr (2, [.long T, .ref t1, .ref o, .ref q, .ref r, .int 0, .int f2])), (t1, .inl (cI, 40, .inl tc)), (o, .inr (1, [.ref o1, .ref o2, .long (bw_q f1 co (bw_nc so T))])), (q, .inr (1, [.ref q1, .ref q2, .long cb])), (r, .inr (0, [.ref r1])), (o1, .inl (cL, 40, .inr (.inl so))), (o2, .inl (cL, 40, .inr (.inl (bw_q f1 go (bw_ng so T go))))), (q1, .inl (cL, 40, .inr (.inl sb))), (q2, .inl (cL, 40, .inr (.inl gb))), (r1, .inl (cL, 40, .inr (.inl (bw_q f1 bl (bw_nl so sb T go bl)))))] H := hP
      have hD : va_D A [(x, .inr (2, [.long T, .ref t1, .ref o, .ref q, .ref r, .int 0, .int f2])), (t1, .inl (cI, 40, .inl tc)), (o, .inr (1, [.ref o1, .ref o2, .long (bw_q f1 co (bw_nc so T))])), (q, .inr (1, [.ref q1, .ref q2, .long cb])), (r, .inr (0, [.ref r1])), (o1, .inl (cL, 40, .inr (.inl so))), (o2, .inl (cL, 40, .inr (.inl (bw_q f1 go (bw_ng so T go))))), (q1, .inl (cL, 40, .inr (.inl sb))), (q2, .inl (cL, 40, .inr (.inl gb))), (r1, .inl (cL, 40, .inr (.inl (bw_q f1 bl (bw_nl so sb T go bl)))))] := hD
      rw [era]; clear era
      refine lv_iload_n hx hb dB_depth_27 rfl (lv_at hl 1 rfl) ?_
      have hPc := hP.sub (ws' := [(r, .inr (0, [.ref r1])), (r1, .inl (cL, 40, .inr (.inl (bw_q f1 bl (bw_nl so sb T go bl)))))]) [4, 9] rfl
      have hKc := hK.sub (tys' := [(cL, .long)]) [1] rfl
      refine vp_callSi (W.runV (As := [.int (nI k)]) (rest := []) ⟨hx, hb, hml, hown, hT⟩ (c_numberAround l dC dI r r1 cL (bw_q f1 bl (bw_nl so sb T go bl)) k (by omega)) (cwV 1 hT g_B_120 rfl rfl rfl (by decide +kernel) ⟨Nat.le_of_ble_eq_true rfl, Nat.le_of_ble_eq_true rfl⟩) (bw_pV hPc hKc hN (ci := 0) (q0 := 0) rfl rfl) rfl rfl hl.1 rfl (lv_room (Nat.le_of_ble_eq_true rfl)) dB_depth_28 ⟨Nat.le_of_ble_eq_true rfl, Nat.le_of_ble_eq_true rfl⟩) (fun r_8 hr_8 => ?_)
      rw [hr_8]; clear hr_8
      have hP9 := hP.sub (ws' := [(x, .inr (2, [.long T, .ref t1, .ref o, .ref q, .ref r, .int 0, .int f2])), (t1, .inl (cI, 40, .inl tc)), (o, .inr (1, [.ref o1, .ref o2, .long (bw_q f1 co (bw_nc so T))])), (q, .inr (1, [.ref q1, .ref q2, .long cb])), (r, .inr (0, [.ref r1])), (o1, .inl (cL, 40, .inr (.inl so))), (o2, .inl (cL, 40, .inr (.inl (bw_q f1 go (bw_ng so T go))))), (q1, .inl (cL, 40, .inr (.inl sb))), (q2, .inl (cL, 40, .inr (.inl gb))), (r1, .inl (cL, 40, .inr (.inl (bw_q f1 bl (bw_nl so sb T go bl)))))]) [0, 1, 2, 3, 4, 5, 6, 7, 8, 9] rfl
      have hD9 := hD.sub (ws' := [(x, .inr (2, [.long T, .ref t1, .ref o, .ref q, .ref r, .int 0, .int f2])), (t1, .inl (cI, 40, .inl tc)), (o, .inr (1, [.ref o1, .ref o2, .long (bw_q f1 co (bw_nc so T))])), (q, .inr (1, [.ref q1, .ref q2, .long cb])), (r, .inr (0, [.ref r1])), (o1, .inl (cL, 40, .inr (.inl so))), (o2, .inl (cL, 40, .inr (.inl (bw_q f1 go (bw_ng so T go))))), (q1, .inl (cL, 40, .inr (.inl sb))), (q2, .inl (cL, 40, .inr (.inl gb))), (r1, .inl (cL, 40, .inr (.inl (bw_q f1 bl (bw_nl so sb T go bl)))))]) [0, 1, 2, 3, 4, 5, 6, 7, 8, 9] (by decide) rfl
      exact W.iret (v := nI (bw_N (fun h => bw_m ((bw_q f1 bl (bw_nl so sb T go bl)) h) k) 40)) hx hb hr (fun t9 ht9 hW9 => ⟨⟨_, (), rfl, (by first | exact (if_pos c_6).symm | exact (if_neg (by rw [c_6]; simp)).symm), by rw [ht9]; exact hP9, by exact hD9⟩, hS.F ht9⟩) hS.2.2 dB_depth_31
    · skip
      have c_6 := bw_i0.mp c_6
      refine lv_iconst (v := -1) hx hb dB_depth_21 (by decide) ?_
      have hP9 := hP.sub (ws' := [(x, .inr (2, [.long T, .ref t1, .ref o, .ref q, .ref r, .int 0, .int f2])), (t1, .inl (cI, 40, .inl tc)), (o, .inr (1, [.ref o1, .ref o2, .long (bw_q f1 co (bw_nc so T))])), (q, .inr (1, [.ref q1, .ref q2, .long cb])), (r, .inr (0, [.ref r1])), (o1, .inl (cL, 40, .inr (.inl so))), (o2, .inl (cL, 40, .inr (.inl (bw_q f1 go (bw_ng so T go))))), (q1, .inl (cL, 40, .inr (.inl sb))), (q2, .inl (cL, 40, .inr (.inl gb))), (r1, .inl (cL, 40, .inr (.inl (bw_q f1 bl (bw_nl so sb T go bl)))))]) [0, 1, 2, 3, 4, 5, 6, 7, 8, 9] rfl
      have hD9 := hD.sub (ws' := [(x, .inr (2, [.long T, .ref t1, .ref o, .ref q, .ref r, .int 0, .int f2])), (t1, .inl (cI, 40, .inl tc)), (o, .inr (1, [.ref o1, .ref o2, .long (bw_q f1 co (bw_nc so T))])), (q, .inr (1, [.ref q1, .ref q2, .long cb])), (r, .inr (0, [.ref r1])), (o1, .inl (cL, 40, .inr (.inl so))), (o2, .inl (cL, 40, .inr (.inl (bw_q f1 go (bw_ng so T go))))), (q1, .inl (cL, 40, .inr (.inl sb))), (q2, .inl (cL, 40, .inr (.inl gb))), (r1, .inl (cL, 40, .inr (.inl (bw_q f1 bl (bw_nl so sb T go bl)))))]) [0, 1, 2, 3, 4, 5, 6, 7, 8, 9] (by decide) rfl
      exact W.iret (v := -1) hx hb hr (fun t9 ht9 hW9 => ⟨⟨_, (), rfl, (by first | exact (if_pos c_6).symm | exact (if_neg (by rw [c_6]; simp)).symm), by rw [ht9]; exact hP9, by exact hD9⟩, hS.F ht9⟩) hS.2.2 dB_depth_22
end
