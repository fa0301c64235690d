section
/-! PURE 1: a long as a set of bits -/
def bw_m (x : Int64) (i : Nat) : Bool := x.toBitVec.getLsbD i
theorem bw_ext {x y : Int64} (h : ∀ i, i < 64 → bw_m x i = bw_m y i) : x = y := Int64.toBitVec_inj.mp (BitVec.eq_of_getLsbD_eq h)
theorem bw_and (x y : Int64) (i : Nat) : bw_m (x &&& y) i = (bw_m x i && bw_m y i) := by simp [bw_m]
theorem bw_or (x y : Int64) (i : Nat) : bw_m (x ||| y) i = (bw_m x i || bw_m y i) := by simp [bw_m]
theorem bw_xor (x y : Int64) (i : Nat) : bw_m (x ^^^ y) i = (bw_m x i ^^ bw_m y i) := by simp [bw_m]
theorem bw_m1' : ∀ i, i < 64 → bw_m (-1) i = true := by decide +kernel
theorem bw_not (x : Int64) {i : Nat} (h : i < 64) : bw_m (x ^^^ (-1)) i = !bw_m x i := by rw [bw_xor, bw_m1' i h, Bool.xor_true]
theorem bw_0 (i : Nat) : bw_m 0 i = false := by simp [bw_m]
theorem bw_big {x : Int64} {i : Nat} (h : 64 ≤ i) : bw_m x i = false := BitVec.getLsbD_of_ge _ _ h
theorem bw_lt {x : Int64} {i : Nat} (h : bw_m x i = true) : i < 64 := by
  rcases Nat.lt_or_ge i 64 with z | z
  · exact z
  · rw [bw_big z] at h; cases h
/-- block k as a set -/
def bw_b (k : Nat) : Int64 := (1 : Int64) <<< ((nI k).toInt64 &&& 63)
theorem bw_bT : ∀ k, k < 64 → (bw_b k).toBitVec = BitVec.twoPow 64 k := by decide +kernel
theorem bw_bit {k : Nat} (hk : k < 64) (i : Nat) : bw_m (bw_b k) i = decide (k = i) := by
  unfold bw_m
  rw [bw_bT k hk, BitVec.getLsbD_twoPow]
  simp [hk]
theorem bw_has {x : Int64} {k : Nat} (hk : k < 64) : (x &&& bw_b k) = 0 ↔ bw_m x k = false := by
  constructor
  · intro h
    have h1 : bw_m (x &&& bw_b k) k = bw_m 0 k := by rw [h]
    rw [bw_and, bw_bit hk, bw_0] at h1
    simpa using h1
  · intro h
    refine bw_ext fun i hi => ?_
    rw [bw_and, bw_bit hk, bw_0]
    by_cases e : k = i
    · subst e; simp [h]
    · simp [e]
theorem bw_z {x : Int64} : x = 0 ↔ ∀ i, bw_m x i = false := by
  constructor
  · intro h i; rw [h, bw_0]
  · intro h; exact bw_ext fun i _ => by rw [h, bw_0]
theorem bw_nz {x : Int64} (h : ¬ x = 0) : ∃ i, i < 64 ∧ bw_m x i = true := by
  by_cases e : ∃ i, i < 64 ∧ bw_m x i = true
  · exact e
  · exact absurd (bw_z.mpr fun i => by
      cases hx : bw_m x i with
      | false => rfl
      | true => exact absurd ⟨i, bw_lt hx, hx⟩ e) h
theorem bw_s1 : ∀ k, k < 64 → (((nI k).toInt64 &&& 63).toBitVec.smod 64).toNat = k := by decide +kernel
theorem bw_one (i : Nat) : bw_m 1 i = decide (0 = i) := bw_bit (k := 0) (by decide) i
theorem bw_shr (x : Int64) {k : Nat} (hk : k < 64) : bw_m (x >>> ((nI k).toInt64 &&& 63)) 0 = bw_m x k := by
  unfold bw_m
  rw [Int64.toBitVec_shiftRight]
  rw [BitVec.sshiftRight_eq', bw_s1 k hk, BitVec.getLsbD_sshiftRight]
  simp [hk]
theorem bw_is {x : Int64} {k : Nat} (hk : k < 64) : ((x >>> ((nI k).toInt64 &&& 63)) &&& 1) = 1 ↔ bw_m x k = true := by
  constructor
  · intro h
    have h1 : bw_m ((x >>> ((nI k).toInt64 &&& 63)) &&& 1) 0 = bw_m 1 0 := by rw [h]
    rw [bw_and, bw_shr x hk, bw_one] at h1
    simpa using h1
  · intro h
    refine bw_ext fun i hi => ?_
    rw [bw_and, bw_one]
    by_cases e : 0 = i
    · subst e; rw [bw_shr x hk, h]; simp
    · simp [e]
/-- a Java boolean -/
def bw_i (c : Bool) : Int32 := if c = true then 1 else 0
theorem bw_iT {c : Bool} (h : c = true) : bw_i c = 1 := by simp [bw_i, h]
theorem bw_iF {c : Bool} (h : c = false) : bw_i c = 0 := by simp [bw_i, h]
theorem bw_i0 {c : Bool} : bw_i c = 0 ↔ c = false := by cases c <;> simp [bw_i]
theorem bw_in0 {c : Bool} (h : ¬ bw_i c = 0) : c = true := by
  cases c
  · exact absurd rfl h
  · rfl
theorem bw_cmp0 {x y : Int64} : lg_cmp x y = 0 ↔ x = y := by
  unfold lg_cmp
  by_cases h1 : y < x
  · simp only [h1, if_true]
    constructor
    · intro h; exact absurd h (by decide)
    · intro h; subst h; exact absurd h1 (by simp)
  · by_cases h2 : x = y
    · simp [h1, h2]
    · simp [h1, h2]
/-- how many of the first n bits -/
def bw_c (x : Int64) : Nat → Nat
  | 0 => 0
  | n + 1 => bw_c x n + (bw_m x n).toNat
theorem bw_c_le (x : Int64) (n : Nat) : bw_c x n ≤ n := by
  induction n with
  | zero => exact Nat.le_refl 0
  | succ n ih =>
    show bw_c x n + (bw_m x n).toNat ≤ n + 1
    have := Bool.toNat_le (bw_m x n)
    omega
theorem bw_c_full {x : Int64} : ∀ {n : Nat}, n ≤ bw_c x n → ∀ i, i < n → bw_m x i = true := by
  intro n
  induction n with
  | zero => intro _ i h; omega
  | succ n ih =>
    intro h i hi
    have h1 : n + 1 ≤ bw_c x n + (bw_m x n).toNat := h
    have h2 := bw_c_le x n
    have h3 := Bool.toNat_le (bw_m x n)
    rcases Nat.lt_or_ge i n with z | z
    · exact ih (by omega) i z
    · have e : i = n := by omega
      subst e
      cases hx : bw_m x i with
      | true => rfl
      | false => rw [hx] at h1; simp at h1; omega
theorem bw_c_mono {x y : Int64} : ∀ {n : Nat}, (∀ i, i < n → bw_m x i = true → bw_m y i = true) → bw_c x n ≤ bw_c y n := by
  intro n
  induction n with
  | zero => intro _; exact Nat.le_refl 0
  | succ n ih =>
    intro h
    have h1 := ih (fun i hi => h i (by omega))
    show bw_c x n + (bw_m x n).toNat ≤ bw_c y n + (bw_m y n).toNat
    have h2 : (bw_m x n).toNat ≤ (bw_m y n).toNat := by
      cases hx : bw_m x n with
      | false => simp
      | true => rw [h n (by omega) hx]; simp
    omega
theorem bw_c_lt {x y : Int64} : ∀ {n : Nat}, (∀ i, i < n → bw_m x i = true → bw_m y i = true) → (∃ i, i < n ∧ bw_m x i = false ∧ bw_m y i = true) → bw_c x n < bw_c y n := by
  intro n
  induction n with
  | zero => intro _ h; obtain ⟨i, h, -⟩ := h; omega
  | succ n ih =>
    intro h ⟨i, hi, h1, h2⟩
    show bw_c x n + (bw_m x n).toNat < bw_c y n + (bw_m y n).toNat
    have h4 : (bw_m x n).toNat ≤ (bw_m y n).toNat := by
      cases hx : bw_m x n with
      | false => simp
      | true => rw [h n (by omega) hx]; simp
    rcases Nat.lt_or_ge i n with z | z
    · have := ih (fun i hi => h i (by omega)) ⟨i, z, h1, h2⟩
      omega
    · have e : i = n := by omega
      subst e
      have := bw_c_mono (x := x) (y := y) (n := i) (fun j hj => h j (by omega))
      rw [h1, h2]
      simp
      omega
theorem bw_c_cut {x : Int64} {k : Nat} (h : ∀ i, k ≤ i → bw_m x i = false) : ∀ n, k ≤ n → bw_c x n = bw_c x k := by
  intro n
  induction n with
  | zero => intro z; have : k = 0 := by omega
            subst this; rfl
  | succ n ih =>
    intro z
    rcases Nat.lt_or_ge n k with y | y
    · have : k = n + 1 := by omega
      rw [this]
    · show bw_c x n + (bw_m x n).toNat = _
      rw [ih y, h n y]; rfl
/-- the least one of a set, 64 of none -/
def bw_lo (x : Int64) : Nat := bw_c ((x &&& (-x)) - 1) 64
theorem bw_lo0 : bw_lo 0 = 64 := by decide +kernel
theorem bw_loB : ∀ k, k < 64 → bw_c (bw_b k - 1) 64 = k := by decide +kernel
theorem bw_loT {x : Int64} {k : Nat} (hk : bw_m x k = true) (h : ∀ j, j < k → bw_m x j = false) : bw_lo x = k := by
  have h64 := bw_lt hk
  have e : (x &&& (-x)) = bw_b k := by
    refine bw_ext fun i hi => ?_
    rw [bw_and, bw_bit h64]
    have hn : bw_m (-x) i = (bw_m x i ^^ (decide (i < 64) && decide (∃ j, j < i ∧ bw_m x j = true))) := by
      unfold bw_m
      rw [Int64.toBitVec_neg, BitVec.getLsbD_neg]
    rw [hn]
    rcases Nat.lt_trichotomy i k with z | z | z
    · rw [h i z]; simp; omega
    · subst z
      have : ¬ ∃ j, j < i ∧ bw_m x j = true := fun ⟨j, a, b⟩ => by rw [h j a] at b; cases b
      simp [hk, this]
    · have h1 : ∃ j, j < i ∧ bw_m x j = true := ⟨k, z, hk⟩
      have h2 : ¬ k = i := by omega
      simp [hi, h1, h2]
      
  unfold bw_lo
  rw [e]
  exact bw_loB k h64
theorem bw_lo_at {x : Int64} (h : ¬ x = 0) : bw_m x (bw_lo x) = true ∧ ∀ j, j < bw_lo x → bw_m x j = false := by
  obtain ⟨i, -, hi⟩ := bw_nz h
  obtain ⟨k, hk, hl⟩ := pk_least (fun k => bw_m x k = true) ⟨i, hi⟩
  have h2 : ∀ j, j < k → bw_m x j = false := fun j hj => by
    cases hx : bw_m x j with
    | false => rfl
    | true => exact absurd hx (hl j hj)
  rw [bw_loT hk h2]
  exact ⟨hk, h2⟩
/-- .. below 40 -/
theorem bw_lo_lt {x : Int64} (h : bw_lo x < 64) : bw_m x (bw_lo x) = true ∧ ∀ j, j < bw_lo x → bw_m x j = false := by
  by_cases e : x = 0
  · subst e; rw [bw_lo0] at h; omega
  · exact bw_lo_at e
theorem bw_lo_ge {x : Int64} {n : Nat} (h : ¬ bw_lo x < n) : ∀ j, j < n → bw_m x j = false := by
  intro j hj
  by_cases e : x = 0
  · rw [e, bw_0]
  · exact (bw_lo_at e).2 j (by omega)
theorem bw_lo_le (x : Int64) : bw_lo x ≤ 64 := bw_c_le _ _
/-! folds over blocks -/
def bw_F (c : Nat → Bool) (g : Nat → Int64) (z : Int64) : Nat → Int64
  | 0 => z
  | n + 1 => if c n = true then bw_F c g z n ||| g n else bw_F c g z n
theorem bw_F_m (c : Nat → Bool) (g : Nat → Int64) (z : Int64) (n i : Nat) : bw_m (bw_F c g z n) i = true ↔ bw_m z i = true ∨ ∃ b, b < n ∧ c b = true ∧ bw_m (g b) i = true := by
  induction n with
  | zero => simp [bw_F]
  | succ n ih =>
    unfold bw_F
    by_cases h : c n = true
    · rw [if_pos h, bw_or, Bool.or_eq_true, ih]
      constructor
      · rintro ((h1 | ⟨b, h1, h2⟩) | h1)
        · exact Or.inl h1
        · exact Or.inr ⟨b, by omega, h2⟩
        · exact Or.inr ⟨n, by omega, h, h1⟩
      · rintro (h1 | ⟨b, h1, h2⟩)
        · exact Or.inl (Or.inl h1)
        · rcases Nat.lt_or_ge b n with z | z
          · exact Or.inl (Or.inr ⟨b, z, h2⟩)
          · have : b = n := by omega
            subst this; exact Or.inr h2.2
    · rw [if_neg h, ih]
      constructor
      · rintro (h1 | ⟨b, h1, h2⟩)
        · exact Or.inl h1
        · exact Or.inr ⟨b, by omega, h2⟩
      · rintro (h1 | ⟨b, h1, h2⟩)
        · exact Or.inl h1
        · rcases Nat.lt_or_ge b n with z | z
          · exact Or.inr ⟨b, z, h2⟩
          · have : b = n := by omega
            subst this; exact absurd h2.1 h
/-- .. of those in all -/
def bw_A (c : Nat → Bool) (g : Nat → Int64) (z : Int64) : Nat → Int64
  | 0 => z
  | n + 1 => if c n = true then bw_A c g z n &&& g n else bw_A c g z n
theorem bw_A_m (c : Nat → Bool) (g : Nat → Int64) (z : Int64) (n i : Nat) : bw_m (bw_A c g z n) i = true ↔ bw_m z i = true ∧ ∀ b, b < n → c b = true → bw_m (g b) i = true := by
  induction n with
  | zero => simp [bw_A]
  | succ n ih =>
    unfold bw_A
    by_cases h : c n = true
    · rw [if_pos h, bw_and, Bool.and_eq_true, ih]
      constructor
      · rintro ⟨⟨h1, h2⟩, h3⟩
        refine ⟨h1, fun b hb hc => ?_⟩
        rcases Nat.lt_or_ge b n with z | z
        · exact h2 b z hc
        · have : b = n := by omega
          subst this; exact h3
      · rintro ⟨h1, h2⟩
        exact ⟨⟨h1, fun b hb hc => h2 b (by omega) hc⟩, h2 n (by omega) h⟩
    · rw [if_neg h, ih]
      constructor
      · rintro ⟨h1, h2⟩
        refine ⟨h1, fun b hb hc => ?_⟩
        rcases Nat.lt_or_ge b n with z | z
        · exact h2 b z hc
        · have : b = n := by omega
          subst this; exact absurd hc h
      · rintro ⟨h1, h2⟩
        exact ⟨h1, fun b hb hc => h2 b (by omega) hc⟩
/-- how many blocks -/
def bw_N (c : Nat → Bool) : Nat → Nat
  | 0 => 0
  | n + 1 => if c n = true then bw_N c n + 1 else bw_N c n
theorem bw_N_le (c : Nat → Bool) (n : Nat) : bw_N c n ≤ n := by
  induction n with
  | zero => exact Nat.le_refl 0
  | succ n ih => unfold bw_N; split <;> omega
theorem bw_N_ext {c d : Nat → Bool} : ∀ {n : Nat}, (∀ i, i < n → c i = d i) → bw_N c n = bw_N d n := by
  intro n
  induction n with
  | zero => intro _; rfl
  | succ n ih => intro h; unfold bw_N; rw [ih (fun i hi => h i (by omega)), h n (by omega)]
theorem bw_N_c (x : Int64) (n : Nat) : bw_N (bw_m x) n = bw_c x n := by
  induction n with
  | zero => rfl
  | succ n ih =>
    show _ = bw_c x n + (bw_m x n).toNat
    unfold bw_N
    rw [ih]
    cases bw_m x n <;> simp
/-- the most -/
def bw_X (f : Nat → Nat) : Nat → Nat
  | 0 => 0
  | n + 1 => if bw_X f n < f n then f n else bw_X f n
theorem bw_X_le {f : Nat → Nat} {k : Nat} (h : ∀ i, f i ≤ k) : ∀ n, bw_X f n ≤ k := by
  intro n
  induction n with
  | zero => exact Nat.zero_le k
  | succ n ih => unfold bw_X; split; exact h n; exact ih
theorem bw_X_ext {f g : Nat → Nat} : ∀ {n : Nat}, (∀ i, i < n → f i = g i) → bw_X f n = bw_X g n := by
  intro n
  induction n with
  | zero => intro _; rfl
  | succ n ih => intro h; unfold bw_X; rw [ih (fun i hi => h i (by omega)), h n (by omega)]
end
section
/-! PURE 2: least closed sets, and what each way must go through -/
theorem bw_dif (x y : Int64) (i : Nat) : bw_m (x &&& (y ^^^ (-1))) i = (bw_m x i && !bw_m y i) := by
  rw [bw_and]
  rcases Nat.lt_or_ge i 64 with z | z
  · rw [bw_not y z]
  · rw [bw_big (x := x) z]; rfl
def bw_L (I : Nat → Prop) (E : Nat → Nat → Prop) (x : Nat) : Prop := ∀ S : Nat → Prop, (∀ i, I i → S i) → (∀ a b, S a → E a b → S b) → S x
theorem bw_L0 {I : Nat → Prop} {E : Nat → Nat → Prop} {x : Nat} (h : I x) : bw_L I E x := fun _ h0 _ => h0 x h
theorem bw_Ls {I : Nat → Prop} {E : Nat → Nat → Prop} {a b : Nat} (h : bw_L I E a) (e : E a b) : bw_L I E b := fun S h0 h1 => h1 a b (h S h0 h1) e
theorem bw_Li {I : Nat → Prop} {E : Nat → Nat → Prop} (S : Nat → Prop) (h0 : ∀ i, I i → S i) (h1 : ∀ a b, bw_L I E a → S a → E a b → S b) {x : Nat} (h : bw_L I E x) : S x :=
  (h (fun z => bw_L I E z ∧ S z) (fun i hi => ⟨bw_L0 hi, h0 i hi⟩) (fun a b ha e => ⟨bw_Ls ha.1 e, h1 a b ha.1 ha.2 e⟩)).2
theorem bw_Lc {I I' : Nat → Prop} {E E' : Nat → Nat → Prop} (h0 : ∀ i, I i → I' i) (h1 : ∀ a b, bw_L I E a → E a b → E' a b) {x : Nat} (h : bw_L I E x) : bw_L I' E' x :=
  bw_Li (fun z => bw_L I' E' z) (fun _ hi => bw_L0 (h0 _ hi)) (fun a b ha hs he => bw_Ls hs (h1 a b ha he)) h
/-- ways that don't go through w -/
def bw_G (I : Nat → Prop) (E : Nat → Nat → Prop) (w : Option Nat) : Nat → Prop := bw_L (fun i => I i ∧ w ≠ some i) (fun a b => E a b ∧ w ≠ some b)
theorem bw_G_up {I : Nat → Prop} {E : Nat → Nat → Prop} {w : Option Nat} {x : Nat} (h : bw_G I E w x) : bw_G I E none x :=
  bw_Lc (fun i hi => ⟨hi.1, by simp⟩) (fun a b _ he => ⟨he.1, by simp⟩) h
theorem bw_G_ne {I : Nat → Prop} {E : Nat → Nat → Prop} {w x : Nat} (h : bw_G I E (some w) x) : w ≠ x :=
  bw_Li (fun z => w ≠ z) (fun _ hi e => hi.2 (by rw [e])) (fun _ _ _ _ he e => he.2 (by rw [e])) h
/-- each way to x goes through d -/
def bw_D (I : Nat → Prop) (E : Nat → Nat → Prop) (d x : Nat) : Prop := bw_G I E none d ∧ bw_G I E none x ∧ ¬ bw_G I E (some d) x
theorem bw_D_self {I : Nat → Prop} {E : Nat → Nat → Prop} {x : Nat} (h : bw_G I E none x) : bw_D I E x x := ⟨h, h, fun z => bw_G_ne z rfl⟩
theorem bw_D_trans {I : Nat → Prop} {E : Nat → Nat → Prop} {x y z : Nat} (h1 : bw_D I E x y) (h2 : bw_D I E y z) : bw_D I E x z := by
  refine ⟨h1.1, h2.2.1, fun h => h2.2.2 ?_⟩
  have key : ∀ {v : Nat}, bw_G I E (some x) v → bw_G I E (some y) v := fun {v} hv =>
    bw_Li (fun v => bw_G I E (some y) v)
      (fun i hi => bw_L0 ⟨hi.1, fun e => h1.2.2 (by cases e; exact bw_L0 hi)⟩)
      (fun a b ha hs he => bw_Ls hs ⟨he.1, fun e => h1.2.2 (by cases e; exact bw_Ls ha he)⟩) hv
  exact key h
theorem bw_D_anti {I : Nat → Prop} {E : Nat → Nat → Prop} {x y : Nat} (h1 : bw_D I E x y) (h2 : bw_D I E y x) : x = y := by
  by_cases hne : x = y
  · exact hne
  exfalso
  have key : ∀ {v : Nat}, bw_G I E none v → (bw_G I E (some x) v ∧ bw_G I E (some y) v) ∨ bw_G I E (some y) x ∨ bw_G I E (some x) y := fun {v} hv => by
    refine bw_Li (fun v => (bw_G I E (some x) v ∧ bw_G I E (some y) v) ∨ bw_G I E (some y) x ∨ bw_G I E (some x) y) ?_ ?_ hv
    · intro i hi
      by_cases e1 : x = i
      · subst e1
        exact Or.inr (Or.inl (bw_L0 ⟨hi.1, fun e => hne (by cases e; rfl)⟩))
      · by_cases e2 : y = i
        · subst e2
          exact Or.inr (Or.inr (bw_L0 ⟨hi.1, fun e => hne (by cases e; rfl)⟩))
        · exact Or.inl ⟨bw_L0 ⟨hi.1, fun e => e1 (by cases e; rfl)⟩, bw_L0 ⟨hi.1, fun e => e2 (by cases e; rfl)⟩⟩
    · intro a b _ hs he
      rcases hs with ⟨s1, s2⟩ | hs
      · by_cases e1 : x = b
        · subst e1
          exact Or.inr (Or.inl (bw_Ls s2 ⟨he.1, fun e => hne (by cases e; rfl)⟩))
        · by_cases e2 : y = b
          · subst e2
            exact Or.inr (Or.inr (bw_Ls s1 ⟨he.1, fun e => hne (by cases e; rfl)⟩))
          · exact Or.inl ⟨bw_Ls s1 ⟨he.1, fun e => e1 (by cases e; rfl)⟩, bw_Ls s2 ⟨he.1, fun e => e2 (by cases e; rfl)⟩⟩
      · exact Or.inr hs
  rcases key h1.1 with ⟨k, -⟩ | k | k
  · exact bw_G_ne k rfl
  · exact h2.2.2 k
  · exact h1.2.2 k
/-! the class's flood -/
def bw_fl (st : Nat → Int64) (al : Int64) : Nat → Int64 → Int64 → Int64
  | 0, f, _ => f
  | n + 1, f, o => if bw_lo o < 40 then bw_fl st al n (f ||| ((st (bw_lo o) &&& al) &&& (f ^^^ (-1)))) ((o &&& (bw_b (bw_lo o) ^^^ (-1))) ||| ((st (bw_lo o) &&& al) &&& (f ^^^ (-1)))) else f
def bw_flood (st : Nat → Int64) (fi al : Int64) : Int64 := bw_fl st al 40 (fi &&& al) (fi &&& al)
theorem bw_fl_end {st : Nat → Int64} {al f : Int64} {I : Nat → Prop} (hL : ∀ i, bw_m f i = true → bw_L I (fun a b => bw_m (st a) b = true ∧ bw_m al b = true) i) (hI : ∀ i, I i → bw_m f i = true)
    (hc : ∀ a b, bw_m f a = true → (bw_m (st a) b = true ∧ bw_m al b = true) → bw_m f b = true) (i : Nat) : bw_m f i = true ↔ bw_L I (fun a b => bw_m (st a) b = true ∧ bw_m al b = true) i :=
  ⟨hL i, fun h => bw_Li (fun z => bw_m f z = true) hI (fun a b _ hs he => hc a b hs he) h⟩
theorem bw_fl_spec {st : Nat → Int64} {al : Int64} {I : Nat → Prop} (h40 : ∀ i, bw_m al i = true → i < 40) : ∀ (n : Nat) (f o : Int64),
    (∀ i, bw_m o i = true → bw_m f i = true) → (∀ i, bw_m f i = true → bw_m al i = true) → (∀ i, bw_m f i = true → bw_L I (fun a b => bw_m (st a) b = true ∧ bw_m al b = true) i) → (∀ i, I i → bw_m f i = true) →
    (∀ a b, bw_m f a = true → bw_m o a = false → (bw_m (st a) b = true ∧ bw_m al b = true) → bw_m f b = true) → 40 ≤ n + bw_c (f &&& (o ^^^ (-1))) 40 →
    ∀ i, bw_m (bw_fl st al n f o) i = true ↔ bw_L I (fun a b => bw_m (st a) b = true ∧ bw_m al b = true) i := by
  intro n
  induction n with
  | zero =>
    intro f o ho hal hL hI hc hn i
    refine bw_fl_end hL hI (fun a b ha he => hc a b ha ?_ he) i
    have h1 := bw_c_full (x := f &&& (o ^^^ (-1))) (n := 40) (by omega) a (h40 a (hal a ha))
    rw [bw_dif] at h1
    simp only [Bool.and_eq_true, Bool.not_eq_true'] at h1
    exact h1.2
  | succ n ih =>
    intro f o ho hal hL hI hc hn i
    unfold bw_fl
    by_cases hb : bw_lo o < 40
    · rw [if_pos hb]
      have hob := (bw_lo_lt (x := o) (by omega)).1
      generalize bw_lo o = b at hb hob ⊢
      have hfb := ho b hob
      have hF : ∀ j, bw_m ((st b &&& al) &&& (f ^^^ (-1))) j = ((bw_m (st b) j && bw_m al j) && !bw_m f j) := fun j => by rw [bw_dif, bw_and]
      generalize (st b &&& al) &&& (f ^^^ (-1)) = F at hF ⊢
      have hO : ∀ j, bw_m ((o &&& (bw_b b ^^^ (-1))) ||| F) j = ((bw_m o j && !decide (b = j)) || bw_m F j) := fun j => by rw [bw_or, bw_dif, bw_bit (by omega)]
      have hf : ∀ j, bw_m (f ||| F) j = (bw_m f j || bw_m F j) := fun j => bw_or f F j
      refine ih (f ||| F) ((o &&& (bw_b b ^^^ (-1))) ||| F) ?_ ?_ ?_ ?_ ?_ ?_ i
      · intro j hj
        rw [hO] at hj; rw [hf]
        simp only [Bool.or_eq_true, Bool.and_eq_true] at hj ⊢
        rcases hj with hj | hj
        · exact Or.inl (ho j hj.1)
        · exact Or.inr hj
      · intro j hj
        rw [hf, hF] at hj
        simp only [Bool.or_eq_true, Bool.and_eq_true] at hj
        rcases hj with hj | hj
        · exact hal j hj
        · exact hj.1.2
      · intro j hj
        rw [hf, hF] at hj
        simp only [Bool.or_eq_true, Bool.and_eq_true] at hj
        rcases hj with hj | hj
        · exact hL j hj
        · exact bw_Ls (hL b hfb) hj.1
      · intro j hj
        rw [hf, hI j hj]; rfl
      · intro a c ha hoa he
        rw [hf] at ha
        rw [hO] at hoa
        simp only [Bool.or_eq_true, Bool.or_eq_false_iff] at ha hoa
        rw [hf]
        have ha : bw_m f a = true := by
          rcases ha with ha | ha
          · exact ha
          · rw [hoa.2] at ha; cases ha
        by_cases e : b = a
        · subst e
          rw [hF, he.1, he.2]
          cases bw_m f c <;> rfl
        · have h1 : bw_m o a = false := by
            have := hoa.1
            simpa [e] using this
          rw [hc a c ha h1 he]; rfl
      · have h1 : bw_c (f &&& (o ^^^ (-1))) 40 < bw_c ((f ||| F) &&& (((o &&& (bw_b b ^^^ (-1))) ||| F) ^^^ (-1))) 40 := by
          refine bw_c_lt (fun j _ hj => ?_) ⟨b, hb, ?_, ?_⟩
          · rw [bw_dif] at hj ⊢
            rw [hf, hO, hF]
            simp only [Bool.and_eq_true, Bool.not_eq_true'] at hj
            rw [hj.1, hj.2]; simp
          · rw [bw_dif, hob]; simp
          · rw [bw_dif, hf, hO, hF, hfb, hob]; simp
        omega
    · rw [if_neg hb]
      refine bw_fl_end hL hI (fun a b ha he => hc a b ha ?_ he) i
      exact bw_lo_ge hb a (h40 a (hal a ha))
theorem bw_flood_spec {st : Nat → Int64} {fi al : Int64} (h40 : ∀ i, bw_m al i = true → i < 40) (i : Nat) :
    bw_m (bw_flood st fi al) i = true ↔ bw_L (fun i => bw_m fi i = true ∧ bw_m al i = true) (fun a b => bw_m (st a) b = true ∧ bw_m al b = true) i := by
  have hx : ∀ j, bw_m (fi &&& al) j = (bw_m fi j && bw_m al j) := bw_and fi al
  refine bw_fl_spec h40 40 _ _ (fun j h => h) (fun j h => ?_) (fun j h => bw_L0 ?_) (fun j h => ?_) (fun a b h1 h2 => ?_) (by omega) i
  · rw [hx, Bool.and_eq_true] at h; exact h.2
  · rw [hx, Bool.and_eq_true] at h; exact h
  · rw [hx, Bool.and_eq_true]; exact h
  · rw [h1] at h2; cases h2
/-- the ways of a Spread: from the first blocks, over those told -/
def bw_I (fi T : Int64) (i : Nat) : Prop := bw_m fi i = true ∧ bw_m T i = true
def bw_E (st : Nat → Int64) (T : Int64) (a b : Nat) : Prop := bw_m (st a) b = true ∧ bw_m T b = true
theorem bw_cov {st : Nat → Int64} {fi T : Int64} (h40 : ∀ i, bw_m T i = true → i < 40) (i : Nat) : bw_m (bw_flood st fi T) i = true ↔ bw_G (bw_I fi T) (bw_E st T) none i := by
  rw [bw_flood_spec h40]
  exact ⟨fun h => bw_Lc (fun j hj => ⟨hj, by simp⟩) (fun a b _ he => ⟨he, by simp⟩) h, fun h => bw_Lc (fun j hj => hj.1) (fun a b _ he => he.1) h⟩
theorem bw_G_T {st : Nat → Int64} {fi T : Int64} {w : Option Nat} {i : Nat} (h : bw_G (bw_I fi T) (bw_E st T) w i) : bw_m T i = true :=
  bw_Li (fun z => bw_m T z = true) (fun _ hi => hi.1.2) (fun _ _ _ _ he => he.1.2) h
/-- Spread.gated -/
def bw_gt (st : Nat → Int64) (fi c : Int64) (d : Nat) : Int64 := if bw_m c d = true then c &&& (bw_flood st fi (c &&& (bw_b d ^^^ (-1))) ^^^ (-1)) else 0
theorem bw_gt_spec {st : Nat → Int64} {fi T : Int64} (h40 : ∀ i, bw_m T i = true → i < 40) {d : Nat} (hd : d < 40) (i : Nat) :
    bw_m (bw_gt st fi (bw_flood st fi T) d) i = true ↔ bw_D (bw_I fi T) (bw_E st T) d i := by
  have hc : ∀ i, bw_m (bw_flood st fi T) i = true ↔ bw_G (bw_I fi T) (bw_E st T) none i := bw_cov h40
  unfold bw_gt
  generalize bw_flood st fi T = c at hc ⊢
  by_cases h : bw_m c d = true
  · rw [if_pos h, bw_dif, Bool.and_eq_true]
    have ha : ∀ j, bw_m (c &&& (bw_b d ^^^ (-1))) j = true ↔ bw_G (bw_I fi T) (bw_E st T) none j ∧ d ≠ j := fun j => by
      rw [bw_dif, bw_bit (by omega), Bool.and_eq_true, hc]; simp
    have h2 : bw_m (bw_flood st fi (c &&& (bw_b d ^^^ (-1)))) i = true ↔ bw_G (bw_I fi T) (bw_E st T) (some d) i := by
      rw [bw_flood_spec (fun j hj => h40 j (bw_G_T ((ha j).mp hj).1))]
      constructor
      · refine bw_Lc (fun j hj => ?_) (fun a b _ he => ?_)
        · have := (ha j).mp hj.2
          exact ⟨⟨hj.1, bw_G_T this.1⟩, fun e => this.2 (Option.some.inj e)⟩
        · have := (ha b).mp he.2
          exact ⟨⟨he.1, bw_G_T this.1⟩, fun e => this.2 (Option.some.inj e)⟩
      · refine bw_Lc (fun j hj => ⟨hj.1.1, (ha j).mpr ⟨bw_L0 ⟨hj.1, by simp⟩, fun e => hj.2 (by rw [e])⟩⟩) (fun a b hl he => ⟨he.1.1, (ha b).mpr ⟨bw_Ls (bw_G_up hl) ⟨he.1, by simp⟩, fun e => he.2 (by rw [e])⟩⟩)
    unfold bw_D
    rw [← hc d, ← hc i]
    constructor
    · rintro ⟨q1, q2⟩
      refine ⟨h, q1, fun z => ?_⟩
      rw [h2.mpr z] at q2; cases q2
    · rintro ⟨-, q1, q2⟩
      refine ⟨q1, ?_⟩
      cases hx : bw_m (bw_flood st fi (c &&& (bw_b d ^^^ (-1)))) i with
      | false => rfl
      | true => exact absurd (h2.mp hx) q2
  · rw [if_neg h, bw_0]
    constructor
    · intro z; cases z
    · intro z; exact absurd ((hc d).mpr z.1) h
/-! the reference's rounds to a fixed point -/
theorem bw_fix {nx : Int64 → Int64} {s0 r : Int64} {I : Nat → Prop} {E : Nat → Nat → Prop} (J : Int64 → Prop) (hr : ∀ P : Int64 → Prop, P s0 → (∀ s, P s → P (nx s)) → P r) (hf : nx r = r)
    (hJ0 : J s0) (hJ : ∀ s, J s → J (nx s)) (h0 : ∀ i, bw_m s0 i = true ↔ I i) (hs : ∀ s i, J s → (bw_m (nx s) i = true ↔ (bw_m s i = true ∨ ∃ a, bw_m s a = true ∧ E a i))) (i : Nat) : bw_m r i = true ↔ bw_L I E i := by
  have k1 : J r ∧ (∀ i, bw_m r i = true → bw_L I E i) ∧ ∀ i, I i → bw_m r i = true := by
    refine hr (fun x => J x ∧ (∀ i, bw_m x i = true → bw_L I E i) ∧ ∀ i, I i → bw_m x i = true) ⟨hJ0, fun i h => bw_L0 ((h0 i).mp h), fun i h => (h0 i).mpr h⟩ (fun s hs9 => ?_)
    refine ⟨hJ s hs9.1, fun i h => ?_, fun i h => (hs s i hs9.1).mpr (Or.inl (hs9.2.2 i h))⟩
    rcases (hs s i hs9.1).mp h with h | ⟨a, h1, h2⟩
    · exact hs9.2.1 i h
    · exact bw_Ls (hs9.2.1 a h1) h2
  refine ⟨k1.2.1 i, fun h => bw_Li (fun z => bw_m r z = true) k1.2.2 (fun a b _ hs9 he => ?_) h⟩
  rw [← hf]
  exact (hs r b k1.1).mpr (Or.inr ⟨a, hs9, he⟩)
end
section
/-! PURE 4: the class's sets and the reference's are the same sets -/
/-- the reference's loops, with sets that come in at every turn -/
theorem bw_fix2 {nx : Int64 → Int64} {s0 r : Int64} {I : Nat → Prop} {E : Nat → Nat → Prop} (J : Int64 → Prop) (hr : ∀ P : Int64 → Prop, P s0 → (∀ s, P s → P (nx s)) → P r) (hf : nx r = r)
    (hJ0 : J s0) (hJ : ∀ s, J s → J (nx s)) (h0 : ∀ i, bw_m s0 i = true → I i) (hs : ∀ s i, J s → (bw_m (nx s) i = true ↔ (bw_m s i = true ∨ I i ∨ ∃ a, bw_m s a = true ∧ E a i))) (i : Nat) : bw_m r i = true ↔ bw_L I E i := by
  have k1 : J r ∧ ∀ i, bw_m r i = true → bw_L I E i := by
    refine hr (fun x => J x ∧ ∀ i, bw_m x i = true → bw_L I E i) ⟨hJ0, fun i h => bw_L0 (h0 i h)⟩ (fun s hs9 => ?_)
    refine ⟨hJ s hs9.1, fun i h => ?_⟩
    rcases (hs s i hs9.1).mp h with h | h | ⟨a, h1, h2⟩
    · exact hs9.2 i h
    · exact bw_L0 h
    · exact bw_Ls (hs9.2 a h1) h2
  refine ⟨k1.2 i, fun h => bw_Li (fun z => bw_m r z = true) (fun j hj => ?_) (fun a b _ hs9 he => ?_) h⟩
  · rw [← hf]
    exact (hs r j k1.1).mpr (Or.inr (Or.inl hj))
  · rw [← hf]
    exact (hs r b k1.1).mpr (Or.inr (Or.inr ⟨a, hs9, he⟩))
/-- the reference's steps: those between blocks that are told -/
def bw_ms (T : Int64) (st ms : Nat → Int64) : Prop := ∀ b, b < 40 → ∀ i, bw_m (ms b) i = true ↔ bw_m T b = true ∧ bw_m (st b) i = true ∧ bw_m T i = true
/-- steps and steps back -/
def bw_sb (st sb : Nat → Int64) : Prop := (∀ a b, a < 40 → b < 40 → (bw_m (sb b) a = true ↔ bw_m (st a) b = true)) ∧ (∀ b a, b < 40 → bw_m (sb b) a = true → a < 40) ∧ ∀ a b, a < 40 → bw_m (st a) b = true → b < 40
def bw_40 (T : Int64) : Prop := ∀ i, bw_m T i = true → i < 40
def bw_off (T : Int64) (st : Nat → Int64) : Prop := ∀ a, a < 40 → bw_m T a = false → st a = 0
/-- a loop's end: a fixed point, with all that the turns keep -/
def bw_Lp (nx : Int64 → Int64) (s0 r : Int64) : Prop := (∀ P : Int64 → Prop, P s0 → (∀ s, P s → P (nx s)) → P r) ∧ nx r = r
/-- comeTo -/
def bw_cn (ms : Nat → Int64) (w : Option Nat) (s : Int64) : Int64 := match w with
  | none => bw_F (bw_m s) ms s 40
  | some d => bw_F (bw_m s) ms s 40 &&& (bw_b d ^^^ (-1))
def bw_c0 (T : Int64) (w : Option Nat) : Int64 := if w = some 0 then 0 else T &&& 1
theorem bw_come {T : Int64} {st ms : Nat → Int64} {w : Option Nat} {r : Int64} (h40 : bw_40 T) (hm : bw_ms T st ms) (hw : ∀ d, w = some d → d < 40) (h : bw_Lp (bw_cn ms w) (bw_c0 T w) r) (i : Nat) :
    bw_m r i = true ↔ bw_G (bw_I (bw_b 0) T) (bw_E st T) w i := by
  have hF : ∀ s i, bw_m (bw_cn ms w s) i = true ↔ (bw_m s i = true ∨ ∃ a, a < 40 ∧ bw_m s a = true ∧ bw_m (ms a) i = true) ∧ w ≠ some i := by
    intro s i
    cases w with
    | none => unfold bw_cn; dsimp only; rw [bw_F_m]; simp
    | some d =>
      unfold bw_cn; dsimp only
      rw [bw_dif, Bool.and_eq_true, bw_F_m, bw_bit (by have := hw d rfl; omega)]; simp
  have h0 : ∀ i, bw_m (bw_c0 T w) i = true ↔ bw_I (bw_b 0) T i ∧ w ≠ some i := by
    intro i
    unfold bw_c0 bw_I
    by_cases e : w = some 0
    · rw [if_pos e, bw_0, bw_bit (by omega), e]
      constructor
      · intro z; cases z
      · rintro ⟨⟨a, -⟩, b⟩
        simp only [decide_eq_true_eq] at a
        exact absurd (by rw [a]) b
    · rw [if_neg e, bw_and, Bool.and_eq_true, bw_bit (by omega), bw_one]
      constructor
      · rintro ⟨a, b⟩
        refine ⟨⟨b, a⟩, ?_⟩
        simp only [decide_eq_true_eq] at b
        rw [← b]; exact e
      · rintro ⟨⟨a, b⟩, -⟩; exact ⟨b, a⟩
  refine bw_fix (I := fun i => bw_I (bw_b 0) T i ∧ w ≠ some i) (E := fun a b => bw_E st T a b ∧ w ≠ some b) (fun s => ∀ i, bw_m s i = true → bw_m T i = true ∧ w ≠ some i) h.1 h.2 (fun i hi => ?_) (fun s hs i hi => ?_) h0 (fun s i hs => ?_) i
  · have := (h0 i).mp hi
    exact ⟨this.1.2, this.2⟩
  · have hi := (hF s i).mp hi
    refine ⟨?_, hi.2⟩
    rcases hi.1 with q | ⟨a, q1, q2, q3⟩
    · exact (hs i q).1
    · exact ((hm a q1 i).mp q3).2.2
  · rw [hF]
    constructor
    · rintro ⟨q | ⟨a, q1, q2, q3⟩, q4⟩
      · exact Or.inl q
      · have := (hm a q1 i).mp q3
        exact Or.inr ⟨a, q2, ⟨this.2.1, this.2.2⟩, q4⟩
    · rintro (q | ⟨a, q1, q2, q3⟩)
      · exact ⟨Or.inl q, (hs i q).2⟩
      · have ha := (hs a q1).1
        exact ⟨Or.inr ⟨a, h40 a ha, q1, (hm a (h40 a ha) i).mpr ⟨ha, q2.1, q2.2⟩⟩, q3⟩
/-- leadTo -/
def bw_nt (w : Option Nat) : Int64 := match w with
  | none => 0
  | some d => bw_b d
def bw_ln (T : Int64) (ms : Nat → Int64) (nt s : Int64) : Int64 := bw_F (fun b => bw_m (T &&& (nt ^^^ (-1))) b && !decide ((ms b &&& s) = 0)) bw_b s 40
theorem bw_meet {x y : Int64} : (!decide ((x &&& y) = 0)) = true ↔ ∃ i, bw_m x i = true ∧ bw_m y i = true := by
  rw [Bool.not_eq_true', decide_eq_false_iff_not]
  constructor
  · intro h
    obtain ⟨i, -, hi⟩ := bw_nz h
    rw [bw_and, Bool.and_eq_true] at hi
    exact ⟨i, hi⟩
  · rintro ⟨i, h1, h2⟩ h
    have : bw_m (x &&& y) i = true := by rw [bw_and, h1, h2]; rfl
    rw [h, bw_0] at this; cases this
theorem bw_nt_m {w : Option Nat} (hw : ∀ d, w = some d → d < 40) (x : Int64) (i : Nat) : bw_m (x &&& (bw_nt w ^^^ (-1))) i = true ↔ bw_m x i = true ∧ w ≠ some i := by
  cases w with
  | none => rw [bw_dif]; unfold bw_nt; dsimp only; rw [bw_0]; simp
  | some d =>
    rw [bw_dif]; unfold bw_nt; dsimp only
    rw [bw_bit (by have := hw d rfl; omega)]; simp
theorem bw_lead {T so : Int64} {ms : Nat → Int64} {w : Option Nat} {r : Int64} (hw : ∀ d, w = some d → d < 40) (h : bw_Lp (bw_ln T ms (bw_nt w)) (so &&& (bw_nt w ^^^ (-1))) r) (i : Nat) :
    bw_m r i = true ↔ bw_L (fun i => bw_m so i = true ∧ w ≠ some i) (fun a b => b < 40 ∧ (bw_m T b = true ∧ w ≠ some b) ∧ bw_m (ms b) a = true) i := by
  refine bw_fix (fun _ => True) h.1 h.2 trivial (fun _ _ => trivial) (fun i => bw_nt_m hw so i) (fun s i _ => ?_) i
  unfold bw_ln
  rw [bw_F_m]
  constructor
  · rintro (q | ⟨b, q1, q2, q3⟩)
    · exact Or.inl q
    · rw [bw_bit (by omega)] at q3
      simp only [decide_eq_true_eq] at q3
      subst q3
      rw [Bool.and_eq_true, bw_nt_m hw, bw_meet] at q2
      obtain ⟨q2, a, q3, q4⟩ := q2
      exact Or.inr ⟨a, q4, q1, q2, q3⟩
  · rintro (q | ⟨a, q1, q2, q3, q4⟩)
    · exact Or.inl q
    · refine Or.inr ⟨i, q2, ?_, ?_⟩
      · rw [Bool.and_eq_true, bw_nt_m hw, bw_meet]
        exact ⟨q3, a, q4, q1⟩
      · rw [bw_bit (by omega)]; simp
theorem bw_leadE {T en : Int64} {st sb ms : Nat → Int64} {w : Option Nat} {r : Int64} (h40 : bw_40 T) (hm : bw_ms T st ms) (hsb : bw_sb st sb) (hen : ∀ i, bw_m en i = true → bw_m T i = true) (hw : ∀ d, w = some d → d < 40)
    (h : bw_Lp (bw_ln T ms (bw_nt w)) (en &&& (bw_nt w ^^^ (-1))) r) (i : Nat) : bw_m r i = true ↔ bw_G (bw_I en T) (bw_E sb T) w i := by
  rw [bw_lead hw h]
  constructor
  · refine bw_Lc (fun j hj => ⟨⟨hj.1, hen j hj.1⟩, hj.2⟩) (fun a b ha he => ?_)
    have q := (hm b he.1 a).mp he.2.2
    exact ⟨⟨(hsb.1 b a he.1 (h40 a q.2.2)).mpr q.2.1, q.1⟩, he.2.1.2⟩
  · refine bw_Lc (fun j hj => ⟨hj.1.1, hj.2⟩) (fun a b ha he => ?_)
    have hTa : bw_m T a = true := bw_G_T ha
    have hb := h40 b he.1.2
    exact ⟨hb, ⟨he.1.2, he.2⟩, (hm b hb a).mpr ⟨he.1.2, (hsb.1 b a hb (h40 a hTa)).mp he.1.1, hTa⟩⟩
/-- over, behind: the other way round -/
def bw_ovS (D : Nat → Nat → Prop) (ov : Nat → Int64) : Prop := ∀ b, b < 40 → ∀ d, bw_m (ov b) d = true ↔ d < 40 ∧ D d b
/-- gates = over -/
def bw_gates (gt : Nat → Int64) (b : Nat) : Int64 := bw_F (fun d => bw_m (gt d) b) bw_b 0 40
theorem bw_gates_m {gt : Nat → Int64} {D : Nat → Nat → Prop} (hg : ∀ d, d < 40 → ∀ i, bw_m (gt d) i = true ↔ D d i) (b d : Nat) : bw_m (bw_gates gt b) d = true ↔ d < 40 ∧ D d b := by
  unfold bw_gates
  rw [bw_F_m, bw_0]
  constructor
  · rintro (q | ⟨e, q1, q2, q3⟩)
    · cases q
    · rw [bw_bit (by omega)] at q3
      simp only [decide_eq_true_eq] at q3
      subst q3
      exact ⟨q1, (hg e q1 b).mp q2⟩
  · rintro ⟨q1, q2⟩
    refine Or.inr ⟨d, q1, (hg d q1 b).mpr q2, ?_⟩
    rw [bw_bit (by omega)]; simp
theorem bw_meq {x y : Int64} (h : ∀ i, bw_m x i = true ↔ bw_m y i = true) : x = y := bw_ext fun i _ => by
  have := h i
  cases hx : bw_m x i <;> cases hy : bw_m y i <;> simp_all
theorem bw_over_eq {gt ov : Nat → Int64} {D : Nat → Nat → Prop} (hg : ∀ d, d < 40 → ∀ i, bw_m (gt d) i = true ↔ D d i) (ho : bw_ovS D ov) {b : Nat} (hb : b < 40) : bw_gates gt b = ov b :=
  bw_meq fun d => by rw [bw_gates_m hg, ho b hb]
/-- Spread.nearestGate and the reference's nearest -/
def bw_near (gt : Nat → Int64) (b : Nat) : Int64 := bw_A (bw_m (bw_gates gt b &&& (bw_b b ^^^ (-1)))) gt (bw_gates gt b &&& (bw_b b ^^^ (-1))) 40
def bw_nearA (gt : Nat → Int64) (b : Nat) : Int32 := if bw_near gt b = 0 then -1 else nI (bw_lo (bw_near gt b))
/-- an early return at the first of them, else -1 -/
def bw_first (P : Nat → Bool) (r : Int32) : Prop := (∃ d, d < 40 ∧ P d = true ∧ (∀ j, j < d → P j = false) ∧ r = nI d) ∨ ((∀ d, d < 40 → P d = false) ∧ r = -1)
def bw_nP (ov : Nat → Int64) (b d : Nat) : Bool := bw_m (ov b &&& (bw_b b ^^^ (-1))) d && decide (ov d = ov b &&& (bw_b b ^^^ (-1)))
theorem bw_near_eq {gt ov : Nat → Int64} {I : Nat → Prop} {E : Nat → Nat → Prop} (hg : ∀ d, d < 40 → ∀ i, bw_m (gt d) i = true ↔ bw_D I E d i) (ho : bw_ovS (bw_D I E) ov) {b : Nat} (hb : b < 40) {r : Int32}
    (h : bw_first (bw_nP ov b) r) : bw_nearA gt b = r := by
  have e := bw_over_eq hg ho hb
  have hN : ∀ x, bw_m (bw_near gt b) x = true ↔ x < 40 ∧ bw_nP ov b x = true := by
    intro x
    unfold bw_near
    rw [bw_A_m, e]
    have ho' : ∀ z, bw_m (ov b &&& (bw_b b ^^^ (-1))) z = true ↔ (z < 40 ∧ bw_D I E z b) ∧ b ≠ z := fun z => by
      rw [bw_dif, Bool.and_eq_true, ho b hb, bw_bit (by omega)]; simp
    unfold bw_nP
    rw [Bool.and_eq_true, ho', decide_eq_true_eq]
    constructor
    · rintro ⟨⟨⟨q1, q2⟩, q3⟩, q4⟩
      refine ⟨q1, ⟨⟨q1, q2⟩, q3⟩, bw_meq fun y => ?_⟩
      rw [ho x q1, ho']
      constructor
      · rintro ⟨y1, y2⟩
        refine ⟨⟨y1, bw_D_trans y2 q2⟩, fun ey => q3 ?_⟩
        subst ey
        exact bw_D_anti y2 q2
      · rintro ⟨⟨y1, y2⟩, y3⟩
        exact ⟨y1, (hg y y1 x).mp (q4 y y1 ((ho' y).mpr ⟨⟨y1, y2⟩, y3⟩))⟩
    · rintro ⟨q1, q2, q3⟩
      refine ⟨q2, fun y y1 y2 => ?_⟩
      rw [← q3] at y2
      exact (hg y y1 x).mpr ((ho x q1 y).mp y2).2
  unfold bw_nearA
  rcases h with ⟨d, h1, h2, h3, h4⟩ | ⟨h1, h2⟩
  · have hd := (hN d).mpr ⟨h1, h2⟩
    have hne : ¬ bw_near gt b = 0 := fun z => by rw [z, bw_0] at hd; cases hd
    rw [if_neg hne, h4, bw_loT hd (fun j hj => ?_)]
    cases hx : bw_m (bw_near gt b) j with
    | false => rfl
    | true => have := (hN j).mp hx; rw [h3 j hj] at this; cases this.2
  · have : bw_near gt b = 0 := bw_z.mpr fun i => by
      cases hx : bw_m (bw_near gt b) i with
      | false => rfl
      | true => have := (hN i).mp hx; rw [h1 i this.1] at this; cases this.2
    rw [if_pos this, h2]
/-- Spread.rim, and the reference's edges -/
def bw_rim (st gt : Nat → Int64) (cv : Int64) (b : Nat) : Int64 := (bw_F (bw_m (gt b)) st 0 40 &&& cv) &&& ((gt b &&& (bw_b b ^^^ (-1))) ^^^ (-1))
theorem bw_rim_m {st gt : Nat → Int64} {cv : Int64} {b : Nat} (hb : b < 40) (x : Nat) : bw_m (bw_rim st gt cv b) x = true ↔ ((∃ f, f < 40 ∧ bw_m (gt b) f = true ∧ bw_m (st f) x = true) ∧ bw_m cv x = true) ∧ (bw_m (gt b) x = false ∨ b = x) := by
  unfold bw_rim
  rw [bw_dif, bw_dif, bw_bit (by omega), bw_and, Bool.and_eq_true, Bool.and_eq_true, bw_F_m, bw_0]
  have : (!(bw_m (gt b) x && !decide (b = x))) = true ↔ (bw_m (gt b) x = false ∨ b = x) := by
    cases bw_m (gt b) x <;> simp
  rw [this]
  simp
/-- edges[b] of the reference -/
def bw_edS (ms ov ed : Nat → Int64) : Prop := ∀ b, b < 40 → ∀ x, bw_m (ed b) x = true ↔ ∃ y, y < 40 ∧ bw_m (ov y) b = true ∧ x < 40 ∧ bw_m (ms y) x = true ∧ (bw_m (ov x) b = false ∨ x = b)
theorem bw_edge_eq {T : Int64} {st ms gt ov ed : Nat → Int64} {cv : Int64} (h40 : bw_40 T) (hm : bw_ms T st ms) (hc : ∀ i, bw_m cv i = true ↔ bw_G (bw_I (bw_b 0) T) (bw_E st T) none i)
    (hg : ∀ d, d < 40 → ∀ i, bw_m (gt d) i = true ↔ bw_D (bw_I (bw_b 0) T) (bw_E st T) d i) (ho : bw_ovS (bw_D (bw_I (bw_b 0) T) (bw_E st T)) ov) (he : bw_edS ms ov ed) {b : Nat} (hb : b < 40) : bw_rim st gt cv b = ed b := by
  refine bw_meq fun x => ?_
  rw [bw_rim_m hb, he b hb]
  constructor
  · rintro ⟨⟨⟨f, q1, q2, q3⟩, q4⟩, q5⟩
    have d1 := (hg b hb f).mp q2
    have t1 := bw_G_T ((hc x).mp q4)
    refine ⟨f, q1, (ho f q1 b).mpr ⟨hb, d1⟩, h40 x t1, (hm f q1 x).mpr ⟨bw_G_T d1.2.1, q3, t1⟩, ?_⟩
    rcases q5 with q5 | q5
    · left
      cases hx : bw_m (ov x) b with
      | false => rfl
      | true =>
        have := (hg b hb x).mpr ((ho x (h40 x t1) b).mp hx).2
        rw [q5] at this; cases this
    · exact Or.inr q5.symm
  · rintro ⟨y, q1, q2, q3, q4, q5⟩
    have d1 := ((ho y q1 b).mp q2).2
    have m1 := (hm y q1 x).mp q4
    refine ⟨⟨⟨y, q1, (hg b hb y).mpr d1, m1.2.1⟩, (hc x).mpr (bw_Ls d1.2.1 ⟨⟨m1.2.1, m1.2.2⟩, by simp⟩)⟩, ?_⟩
    rcases q5 with q5 | q5
    · left
      cases hx : bw_m (gt b) x with
      | false => rfl
      | true =>
        have := (ho x q3 b).mpr ⟨hb, (hg b hb x).mp hx⟩
        rw [q5] at this; cases this
    · exact Or.inr q5.symm
/-- what hangs on what -/
def bw_haS (ms be : Nat → Int64) (go : Int64) (b : Nat) (r : Int64) : Prop := ∀ a, bw_m r a = true ↔ a < 40 ∧ bw_m go a = true ∧ ¬ (bw_m (be a) b = true ∧ a ≠ b) ∧ ∃ t, t < 40 ∧ bw_m (ms a) t = true ∧ bw_m (be t) b = true
theorem bw_hang_eq {T en : Int64} {st sb ms gt be : Nat → Int64} {cv r : Int64} (h40 : bw_40 T) (hm : bw_ms T st ms) (hsb : bw_sb st sb) (hc : ∀ i, bw_m cv i = true ↔ bw_G (bw_I en T) (bw_E sb T) none i)
    (hg : ∀ d, d < 40 → ∀ i, bw_m (gt d) i = true ↔ bw_D (bw_I en T) (bw_E sb T) d i) (ho : bw_ovS (bw_D (bw_I en T) (bw_E sb T)) be) {b : Nat} (hb : b < 40) (hr : bw_haS ms be cv b r) : bw_rim sb gt cv b = r := by
  refine bw_meq fun x => ?_
  rw [bw_rim_m hb, hr]
  constructor
  · rintro ⟨⟨⟨f, q1, q2, q3⟩, q4⟩, q5⟩
    have d1 := (hg b hb f).mp q2
    have t1 := bw_G_T ((hc x).mp q4)
    have tf := bw_G_T d1.2.1
    refine ⟨h40 x t1, q4, ?_, f, q1, (hm x (h40 x t1) f).mpr ⟨t1, (hsb.1 x f (h40 x t1) q1).mp q3, tf⟩, (ho f q1 b).mpr ⟨hb, d1⟩⟩
    rintro ⟨z1, z2⟩
    rcases q5 with q5 | q5
    · have := (hg b hb x).mpr ((ho x (h40 x t1) b).mp z1).2
      rw [q5] at this; cases this
    · exact z2 q5.symm
  · rintro ⟨q1, q2, q3, t, q4, q5, q6⟩
    have d1 := ((ho t q4 b).mp q6).2
    have m1 := (hm x q1 t).mp q5
    refine ⟨⟨⟨t, q4, (hg b hb t).mpr d1, (hsb.1 x t q1 q4).mpr m1.2.1⟩, q2⟩, ?_⟩
    by_cases e : b = x
    · exact Or.inr e
    · left
      cases hx : bw_m (gt b) x with
      | false => rfl
      | true => exact absurd ⟨(ho x q1 b).mpr ⟨hb, (hg b hb x).mp hx⟩, fun z => e z.symm⟩ q3
/-- rounds -/
def bw_bl (sb gt : Nat → Int64) (cv : Int64) (h : Nat) : Int64 := if (sb h &&& gt h) = 0 then 0 else bw_flood sb (sb h &&& gt h) (cv &&& (bw_b h ^^^ (-1))) ||| bw_b h
def bw_bk (re : Int64) (ms ov : Nat → Int64) (h : Nat) : Int64 := bw_F (fun b => bw_m re b && bw_m (ms b) h && bw_m (ov b) h) bw_b 0 40
theorem bw_back_eq {T : Int64} {st sb ms gt ov : Nat → Int64} {cv : Int64} (h40 : bw_40 T) (hm : bw_ms T st ms) (hsb : bw_sb st sb) (hc : ∀ i, bw_m cv i = true ↔ bw_G (bw_I (bw_b 0) T) (bw_E st T) none i)
    (hg : ∀ d, d < 40 → ∀ i, bw_m (gt d) i = true ↔ bw_D (bw_I (bw_b 0) T) (bw_E st T) d i) (ho : bw_ovS (bw_D (bw_I (bw_b 0) T) (bw_E st T)) ov) {h : Nat} (hh : h < 40) : bw_bk cv ms ov h = (sb h &&& gt h) := by
  refine bw_meq fun x => ?_
  unfold bw_bk
  rw [bw_F_m, bw_0, bw_and, Bool.and_eq_true]
  constructor
  · rintro (q | ⟨b, q1, q2, q3⟩)
    · cases q
    · rw [bw_bit (by omega)] at q3
      simp only [decide_eq_true_eq] at q3
      subst q3
      simp only [Bool.and_eq_true] at q2
      have d1 := ((ho b q1 h).mp q2.2).2
      exact ⟨(hsb.1 b h q1 hh).mpr ((hm b q1 h).mp q2.1.2).2.1, (hg h hh b).mpr d1⟩
  · rintro ⟨q1, q2⟩
    have d1 := (hg h hh x).mp q2
    have hx := h40 x (bw_G_T d1.2.1)
    refine Or.inr ⟨x, hx, ?_, by rw [bw_bit (by omega)]; simp⟩
    simp only [Bool.and_eq_true]
    exact ⟨⟨(hc x).mpr d1.2.1, (hm x hx h).mpr ⟨bw_G_T d1.2.1, (hsb.1 x h hx hh).mp q1, bw_G_T d1.1⟩⟩, (ho x hx h).mpr ⟨hh, d1⟩⟩
theorem bw_round_eq {T : Int64} {st sb ms gt ov : Nat → Int64} {cv : Int64} (h40 : bw_40 T) (hm : bw_ms T st ms) (hsb : bw_sb st sb) (hc : ∀ i, bw_m cv i = true ↔ bw_G (bw_I (bw_b 0) T) (bw_E st T) none i)
    (hg : ∀ d, d < 40 → ∀ i, bw_m (gt d) i = true ↔ bw_D (bw_I (bw_b 0) T) (bw_E st T) d i) (ho : bw_ovS (bw_D (bw_I (bw_b 0) T) (bw_E st T)) ov) {h : Nat} (hh : h < 40) {r : Int64}
    (hr : bw_Lp (bw_ln T ms (bw_nt (some h))) (bw_bk cv ms ov h &&& (bw_nt (some h) ^^^ (-1))) r) : bw_bl sb gt cv h = if bw_bk cv ms ov h = 0 then 0 else bw_b h ||| (r &&& cv) := by
  have e := bw_back_eq h40 hm hsb hc hg ho hh
  have hl := bw_lead (w := some h) (fun d z => by cases z; exact hh) hr
  rw [e] at hl
  unfold bw_bl
  rw [e]
  by_cases z : (sb h &&& gt h) = 0
  · rw [if_pos z, if_pos z]
  · rw [if_neg z, if_neg z]
    have hal : ∀ j, bw_m (cv &&& (bw_b h ^^^ (-1))) j = true ↔ bw_G (bw_I (bw_b 0) T) (bw_E st T) none j ∧ h ≠ j := fun j => by
      rw [bw_dif, bw_bit (by omega), Bool.and_eq_true, hc]; simp
    have key : ∀ i, bw_m (bw_flood sb (sb h &&& gt h) (cv &&& (bw_b h ^^^ (-1)))) i = true ↔ bw_m r i = true ∧ bw_m cv i = true := by
      intro i
      rw [bw_flood_spec (fun j hj => h40 j (bw_G_T ((hal j).mp hj).1)), hl]
      constructor
      · intro q
        constructor
        · refine bw_Lc (fun j hj => ⟨hj.1, fun y => ((hal j).mp hj.2).2 (Option.some.inj y)⟩) (fun a b ha he => ?_) q
          have hb := (hal b).mp he.2
          have tb := bw_G_T hb.1
          have ta : bw_m T a = true := bw_Li (fun z => bw_m T z = true) (fun j hj => bw_G_T ((hal j).mp hj.2).1) (fun _ c _ _ he => bw_G_T ((hal c).mp he.2).1) ha
          exact ⟨h40 b tb, ⟨tb, fun y => hb.2 (Option.some.inj y)⟩, (hm b (h40 b tb) a).mpr ⟨tb, (hsb.1 b a (h40 b tb) (h40 a ta)).mp he.1, ta⟩⟩
        · exact bw_Li (fun z => bw_m cv z = true) (fun j hj => (hc j).mpr ((hal j).mp hj.2).1) (fun _ b _ _ he => (hc b).mpr ((hal b).mp he.2).1) q
      · rintro ⟨q1, q2⟩
        refine bw_Li (fun z => bw_m cv z = true → bw_L _ _ z) (fun j hj hcj => bw_L0 ⟨hj.1, (hal j).mpr ⟨(hc j).mp hcj, fun y => hj.2 (by rw [y])⟩⟩) (fun a b _ hs he hcb => ?_) q1 q2
        have hb := (hc b).mp hcb
        have m1 := (hm b he.1 a).mp he.2.2
        have hca : bw_m cv a = true := (hc a).mpr (bw_Ls hb ⟨⟨m1.2.1, m1.2.2⟩, by simp⟩)
        exact bw_Ls (hs hca) ⟨(hsb.1 b a he.1 (h40 a m1.2.2)).mpr m1.2.1, (hal b).mpr ⟨hb, fun y => he.2.1.2 (by rw [y])⟩⟩
    refine bw_meq fun i => ?_
    rw [bw_or, bw_or, bw_and, Bool.or_eq_true, Bool.or_eq_true, Bool.and_eq_true, key]
    exact Or.comm
end
section
/-! PURE 5: joins, circles, the smallest round -/
/-- the class's joins -/
def bw_jn (rim : Nat → Int64) : Nat → Int64 → Int64 → Int64 → Int64
  | 0, j, _, _ => j
  | n + 1, j, f, o => if bw_lo o < 40 then bw_jn rim n (j ||| rim (bw_lo o)) (f ||| rim (bw_lo o)) ((o &&& (bw_b (bw_lo o) ^^^ (-1))) ||| (rim (bw_lo o) &&& (f ^^^ (-1)))) else j
def bw_joins (rim : Nat → Int64) (cv bs : Int64) : Int64 := bw_jn rim 40 0 (bs &&& cv) (bs &&& cv)
theorem bw_jn_end {rim : Nat → Int64} {j f : Int64} {I : Nat → Prop} (hL : ∀ i, bw_m f i = true → bw_L I (fun a b => bw_m (rim a) b = true) i) (hI : ∀ i, I i → bw_m f i = true)
    (hj : ∀ i, bw_m j i = true → ∃ a, bw_m f a = true ∧ bw_m (rim a) i = true) (hjf : ∀ i, bw_m j i = true → bw_m f i = true)
    (hc : ∀ a b, bw_m f a = true → bw_m (rim a) b = true → bw_m j b = true) (i : Nat) : bw_m j i = true ↔ ∃ a, bw_L I (fun a b => bw_m (rim a) b = true) a ∧ bw_m (rim a) i = true := by
  constructor
  · intro h
    obtain ⟨a, h1, h2⟩ := hj i h
    exact ⟨a, hL a h1, h2⟩
  · rintro ⟨a, h1, h2⟩
    exact hc a i (bw_Li (fun z => bw_m f z = true) hI (fun a b _ hs he => hjf b (hc a b hs he)) h1) h2
theorem bw_jn_spec {rim : Nat → Int64} {I : Nat → Prop} (h40 : ∀ a, a < 40 → ∀ i, bw_m (rim a) i = true → i < 40) : ∀ (n : Nat) (j f o : Int64),
    (∀ i, bw_m o i = true → bw_m f i = true) → (∀ i, bw_m f i = true → i < 40) → (∀ i, bw_m f i = true → bw_L I (fun a b => bw_m (rim a) b = true) i) → (∀ i, I i → bw_m f i = true) →
    (∀ i, bw_m j i = true → ∃ a, bw_m f a = true ∧ bw_m (rim a) i = true) → (∀ i, bw_m j i = true → bw_m f i = true) →
    (∀ a b, bw_m f a = true → bw_m o a = false → bw_m (rim a) b = true → bw_m j b = true) → 40 ≤ n + bw_c (f &&& (o ^^^ (-1))) 40 →
    ∀ i, bw_m (bw_jn rim n j f o) i = true ↔ ∃ a, bw_L I (fun a b => bw_m (rim a) b = true) a ∧ bw_m (rim a) i = true := by
  intro n
  induction n with
  | zero =>
    intro j f o ho hal hL hI hj hjf hc hn i
    refine bw_jn_end hL hI hj hjf (fun a b ha he => hc a b ha ?_ he) i
    have h1 := bw_c_full (x := f &&& (o ^^^ (-1))) (n := 40) (by omega) a (hal a ha)
    rw [bw_dif] at h1
    simp only [Bool.and_eq_true, Bool.not_eq_true'] at h1
    exact h1.2
  | succ n ih =>
    intro j f o ho hal hL hI hj hjf hc hn i
    unfold bw_jn
    by_cases hb : bw_lo o < 40
    · rw [if_pos hb]
      have hob := (bw_lo_lt (x := o) (by omega)).1
      generalize bw_lo o = b at hb hob ⊢
      have hfb := ho b hob
      have hO : ∀ k, bw_m ((o &&& (bw_b b ^^^ (-1))) ||| (rim b &&& (f ^^^ (-1)))) k = ((bw_m o k && !decide (b = k)) || (bw_m (rim b) k && !bw_m f k)) := fun k => by rw [bw_or, bw_dif, bw_dif, bw_bit (by omega)]
      have hf : ∀ k, bw_m (f ||| rim b) k = (bw_m f k || bw_m (rim b) k) := fun k => bw_or f _ k
      have hJ : ∀ k, bw_m (j ||| rim b) k = (bw_m j k || bw_m (rim b) k) := fun k => bw_or j _ k
      refine ih (j ||| rim b) (f ||| rim b) ((o &&& (bw_b b ^^^ (-1))) ||| (rim b &&& (f ^^^ (-1)))) ?_ ?_ ?_ ?_ ?_ ?_ ?_ ?_ i
      · intro k hk
        rw [hO] at hk; rw [hf]
        simp only [Bool.or_eq_true, Bool.and_eq_true] at hk ⊢
        rcases hk with hk | hk
        · exact Or.inl (ho k hk.1)
        · exact Or.inr hk.1
      · intro k hk
        rw [hf, Bool.or_eq_true] at hk
        rcases hk with hk | hk
        · exact hal k hk
        · exact h40 b hb k hk
      · intro k hk
        rw [hf, Bool.or_eq_true] at hk
        rcases hk with hk | hk
        · exact hL k hk
        · exact bw_Ls (hL b hfb) hk
      · intro k hk
        rw [hf, hI k hk]; rfl
      · intro k hk
        rw [hJ, Bool.or_eq_true] at hk
        rcases hk with hk | hk
        · obtain ⟨a, h1, h2⟩ := hj k hk
          exact ⟨a, by rw [hf, h1]; rfl, h2⟩
        · exact ⟨b, by rw [hf, hfb]; rfl, hk⟩
      · intro k hk
        rw [hJ, Bool.or_eq_true] at hk
        rw [hf, Bool.or_eq_true]
        rcases hk with hk | hk
        · exact Or.inl (hjf k hk)
        · exact Or.inr hk
      · intro a c ha hoa he
        rw [hf] at ha
        rw [hO] at hoa
        simp only [Bool.or_eq_true, Bool.or_eq_false_iff] at ha hoa
        rw [hJ, Bool.or_eq_true]
        by_cases e : b = a
        · subst e; exact Or.inr he
        · have h1 : bw_m o a = false := by
            have := hoa.1
            simpa [e] using this
          have ha : bw_m f a = true := by
            rcases ha with ha | ha
            · exact ha
            · have := hoa.2
              rw [ha] at this
              simpa using this
          exact Or.inl (hc a c ha h1 he)
      · have h1 : bw_c (f &&& (o ^^^ (-1))) 40 < bw_c ((f ||| rim b) &&& (((o &&& (bw_b b ^^^ (-1))) ||| (rim b &&& (f ^^^ (-1)))) ^^^ (-1))) 40 := by
          refine bw_c_lt (fun k _ hk => ?_) ⟨b, hb, ?_, ?_⟩
          · rw [bw_dif] at hk ⊢
            rw [hf, hO]
            simp only [Bool.and_eq_true, Bool.not_eq_true'] at hk
            rw [hk.1, hk.2]; simp
          · rw [bw_dif, hob]; simp
          · rw [bw_dif, hf, hO, hfb, hob]; simp
        omega
    · rw [if_neg hb]
      refine bw_jn_end hL hI hj hjf (fun a b ha he => hc a b ha ?_ he) i
      exact bw_lo_ge hb a (hal a ha)
theorem bw_joins_m {rim : Nat → Int64} {cv bs : Int64} (h40 : ∀ a, a < 40 → ∀ i, bw_m (rim a) i = true → i < 40) (hcv : ∀ i, bw_m cv i = true → i < 40) (i : Nat) :
    bw_m (bw_joins rim cv bs) i = true ↔ ∃ a, bw_L (fun i => bw_m bs i = true ∧ bw_m cv i = true) (fun a b => bw_m (rim a) b = true) a ∧ bw_m (rim a) i = true := by
  have hx : ∀ j, bw_m (bs &&& cv) j = (bw_m bs j && bw_m cv j) := bw_and bs cv
  refine bw_jn_spec h40 40 0 _ _ (fun j h => h) (fun j h => ?_) (fun j h => bw_L0 ?_) (fun j h => ?_) (fun j h => ?_) (fun j h => ?_) (fun a b h1 h2 => ?_) (by omega) i
  · rw [hx, Bool.and_eq_true] at h; exact hcv j h.2
  · rw [hx, Bool.and_eq_true] at h; exact h
  · rw [hx, Bool.and_eq_true]; exact h
  · rw [bw_0] at h; cases h
  · rw [bw_0] at h; cases h
  · rw [h1] at h2; cases h2
/-- the reference's joins -/
def bw_jx (ed : Nat → Int64) (re bs s : Int64) : Int64 := bw_F (bw_m ((bs ||| s) &&& re)) ed s 40
theorem bw_joins_eq {rim ed : Nat → Int64} {cv bs r : Int64} (he : ∀ b, b < 40 → rim b = ed b) (h40 : ∀ a, a < 40 → ∀ i, bw_m (rim a) i = true → bw_m cv i = true) (hcv : ∀ i, bw_m cv i = true → i < 40)
    (hr : bw_Lp (bw_jx ed cv bs) 0 r) : bw_joins rim cv bs = r := by
  have hl := bw_fix2 (I := fun i => ∃ b, b < 40 ∧ (bw_m bs b = true ∧ bw_m cv b = true) ∧ bw_m (ed b) i = true) (E := fun a i => a < 40 ∧ bw_m cv a = true ∧ bw_m (ed a) i = true) (fun _ => True) hr.1 hr.2 trivial (fun _ _ => trivial) (fun i h => by rw [bw_0] at h; cases h) (fun s i _ => by
    unfold bw_jx
    rw [bw_F_m]
    constructor
    · rintro (q | ⟨b, q1, q2, q3⟩)
      · exact Or.inl q
      · rw [bw_and, bw_or, Bool.and_eq_true, Bool.or_eq_true] at q2
        rcases q2 with ⟨q2 | q2, q4⟩
        · exact Or.inr (Or.inl ⟨b, q1, ⟨q2, q4⟩, q3⟩)
        · exact Or.inr (Or.inr ⟨b, q2, q1, q4, q3⟩)
    · rintro (q | ⟨b, q1, q2, q3⟩ | ⟨b, q1, q2, q3, q4⟩)
      · exact Or.inl q
      · refine Or.inr ⟨b, q1, ?_, q3⟩
        rw [bw_and, bw_or, q2.1, q2.2]; rfl
      · refine Or.inr ⟨b, q2, ?_, q4⟩
        rw [bw_and, bw_or, q1, q3]; simp)
  refine bw_meq fun i => ?_
  rw [bw_joins_m (fun a ha i hi => hcv i (h40 a ha i hi)) hcv, hl]
  have hin : ∀ {a : Nat}, bw_L (fun i => bw_m bs i = true ∧ bw_m cv i = true) (fun a b => bw_m (rim a) b = true) a → bw_m cv a = true := fun {a} h =>
    bw_Li (fun z => bw_m cv z = true) (fun _ hj => hj.2) (fun a b _ hs he => h40 a (hcv a hs) b he) h
  constructor
  · rintro ⟨a, h1, h2⟩
    have key : bw_m cv a = true ∧ ∀ i, bw_m (rim a) i = true → bw_L (fun i => ∃ b, b < 40 ∧ (bw_m bs b = true ∧ bw_m cv b = true) ∧ bw_m (ed b) i = true) (fun a i => a < 40 ∧ bw_m cv a = true ∧ bw_m (ed a) i = true) i := by
      refine bw_Li (fun z => bw_m cv z = true ∧ ∀ i, bw_m (rim z) i = true → bw_L (fun i => ∃ b, b < 40 ∧ (bw_m bs b = true ∧ bw_m cv b = true) ∧ bw_m (ed b) i = true) (fun a i => a < 40 ∧ bw_m cv a = true ∧ bw_m (ed a) i = true) i) (fun j hj => ⟨hj.2, fun i hi => ?_⟩) (fun x y _ hs hxy => ?_) h1
      · exact bw_L0 ⟨j, hcv j hj.2, hj, by rw [← he j (hcv j hj.2)]; exact hi⟩
      · have cy := h40 x (hcv x hs.1) y hxy
        exact ⟨cy, fun i hi => bw_Ls (hs.2 y hxy) ⟨hcv y cy, cy, by rw [← he y (hcv y cy)]; exact hi⟩⟩
    exact key.2 i h2
  · intro h
    refine bw_Li (fun z => ∃ a, bw_L (fun i => bw_m bs i = true ∧ bw_m cv i = true) (fun a b => bw_m (rim a) b = true) a ∧ bw_m (rim a) z = true) (fun j hj => ?_) (fun x y _ hs hxy => ?_) h
    · obtain ⟨b, h1, h2, h3⟩ := hj
      exact ⟨b, bw_L0 h2, by rw [he b h1]; exact h3⟩
    · obtain ⟨a, h1, h2⟩ := hs
      exact ⟨x, bw_Ls h1 h2, by rw [he x hxy.1]; exact hxy.2.2⟩
/-! circles -/
/-- a set in which each one has one ahead of it holds one in which each one has one behind it -/
theorem bw_circ (F : Nat → Nat → Prop) : ∀ (n : Nat) (C : Int64), bw_c C 64 ≤ n → ¬ C = 0 → (∀ c, bw_m C c = true → ∃ a, bw_m C a = true ∧ F a c) →
    ∃ C' : Int64, ¬ C' = 0 ∧ (∀ i, bw_m C' i = true → bw_m C i = true) ∧ ∀ c, bw_m C' c = true → ∃ a, bw_m C' a = true ∧ F c a := by
  intro n
  induction n with
  | zero =>
    intro C hn h0 _
    obtain ⟨i, hi, hm⟩ := bw_nz h0
    have : bw_c 0 64 < bw_c C 64 := bw_c_lt (fun j _ h => by rw [bw_0] at h; cases h) ⟨i, hi, bw_0 i, hm⟩
    omega
  | succ n ih =>
    intro C hn h0 hp
    by_cases h : ∀ c, bw_m C c = true → ∃ a, bw_m C a = true ∧ F c a
    · exact ⟨C, h0, fun _ h => h, h⟩
    · obtain ⟨c, hc⟩ := Classical.not_forall.mp h
      obtain ⟨hc, hno⟩ := Classical.not_imp.mp hc
      have c64 := bw_lt hc
      have hm : ∀ i, bw_m (C &&& (bw_b c ^^^ (-1))) i = true ↔ bw_m C i = true ∧ c ≠ i := fun i => by
        rw [bw_dif, bw_bit c64, Bool.and_eq_true]; simp
      obtain ⟨C', h1, h2, h3⟩ := ih (C &&& (bw_b c ^^^ (-1))) (by
        have : bw_c (C &&& (bw_b c ^^^ (-1))) 64 < bw_c C 64 := bw_c_lt (fun j _ h => ((hm j).mp h).1) ⟨c, c64, by
          cases hx : bw_m (C &&& (bw_b c ^^^ (-1))) c with
          | false => rfl
          | true => exact absurd rfl ((hm c).mp hx).2, hc⟩
        omega) (by
        obtain ⟨p, h1, h2⟩ := hp c hc
        intro z
        have h3 : c ≠ p := fun e => hno ⟨c, hc, by rw [← e] at h2; exact h2⟩
        have := (hm p).mpr ⟨h1, h3⟩
        rw [z, bw_0] at this; cases this) (fun i hi => by
        obtain ⟨hi, hne⟩ := (hm i).mp hi
        obtain ⟨a, h1, h2⟩ := hp i hi
        refine ⟨a, (hm a).mpr ⟨h1, fun e => hno ⟨i, hi, by rw [e]; exact h2⟩⟩, h2⟩)
      exact ⟨C', h1, fun i hi => ((hm i).mp (h2 i hi)).1, h3⟩
/-- one sweep of isPlain, up to block n -/
def bw_sw (src : Nat → Int64) (left : Int64) : Nat → Int64
  | 0 => left
  | n + 1 => if (src n &&& bw_sw src left n) = 0 then bw_sw src left n &&& (bw_b n ^^^ (-1)) else bw_sw src left n
/-- k sweeps, as long as something is left -/
def bw_swk (src : Nat → Int64) : Nat → Int64 → Int64
  | 0, left => left
  | k + 1, left => if left = 0 then left else bw_swk src k (bw_sw src left 40)
theorem bw_sw_sub {src : Nat → Int64} {left : Int64} : ∀ n, n ≤ 40 → ∀ i, bw_m (bw_sw src left n) i = true → bw_m left i = true := by
  intro n
  induction n with
  | zero => intro _ i h; exact h
  | succ n ih =>
    intro hn i h
    unfold bw_sw at h
    split at h
    · rw [bw_dif, Bool.and_eq_true] at h; exact ih (by omega) i h.1
    · exact ih (by omega) i h
theorem bw_sw_keep {src : Nat → Int64} {left C : Int64} (hC : ∀ c, bw_m C c = true → ∃ a, bw_m C a = true ∧ bw_m (src c) a = true) (h0 : ∀ i, bw_m C i = true → bw_m left i = true) : ∀ n, n ≤ 40 → ∀ i, bw_m C i = true → bw_m (bw_sw src left n) i = true := by
  intro n
  induction n with
  | zero => intro _; exact h0
  | succ n ih =>
    intro hn i h
    have h9 := ih (by omega)
    unfold bw_sw
    split
    · rename_i z
      rw [bw_dif, Bool.and_eq_true, bw_bit (by omega)]
      refine ⟨h9 i h, ?_⟩
      by_cases e : n = i
      · subst e
        obtain ⟨a, h1, h2⟩ := hC n h
        have : bw_m (src n &&& bw_sw src left n) a = true := by rw [bw_and, h2, h9 a h1]; rfl
        rw [z, bw_0] at this; cases this
      · simp [e]
    · exact h9 i h
/-- a sweep that takes nothing away leaves only such as have one ahead -/
theorem bw_sw_fix {src : Nat → Int64} {left : Int64} (hl : ∀ i, bw_m left i = true → i < 40) (h : ∀ i, bw_m left i = true → bw_m (bw_sw src left 40) i = true) : ∀ c, bw_m left c = true → ∃ a, bw_m left a = true ∧ bw_m (src c) a = true := by
  have key : ∀ n, n ≤ 40 → ∀ i, bw_m (bw_sw src left 40) i = true → bw_m (bw_sw src left n) i = true := by
    have step : ∀ n i, n < 40 → bw_m (bw_sw src left (n + 1)) i = true → bw_m (bw_sw src left n) i = true := by
      intro n i hn h
      unfold bw_sw at h
      split at h
      · rw [bw_dif, Bool.and_eq_true] at h; exact h.1
      · exact h
    have go : ∀ k n, n + k = 40 → ∀ i, bw_m (bw_sw src left 40) i = true → bw_m (bw_sw src left n) i = true := by
      intro k
      induction k with
      | zero => intro n e i h; have : n = 40 := by omega
                subst this; exact h
      | succ k ih => intro n e i h; exact step n i (by omega) (ih (n + 1) (by omega) i h)
    intro n hn i h
    exact go (40 - n) n (by omega) i h
  intro c hc
  have c40 := hl c hc
  have hk := key (c + 1) (by omega) c (h c hc)
  unfold bw_sw at hk
  split at hk
  · rw [bw_dif, bw_bit (by omega), Bool.and_eq_true] at hk
    simp at hk
  · rename_i z
    obtain ⟨a, -, ha⟩ := bw_nz z
    rw [bw_and, Bool.and_eq_true] at ha
    exact ⟨a, bw_sw_sub c (by omega) a ha.2, ha.1⟩
theorem bw_swk_keep {src : Nat → Int64} {C : Int64} (hC : ∀ c, bw_m C c = true → ∃ a, bw_m C a = true ∧ bw_m (src c) a = true) : ∀ (k : Nat) (left : Int64), (∀ i, bw_m C i = true → bw_m left i = true) → ∀ i, bw_m C i = true → bw_m (bw_swk src k left) i = true := by
  intro k
  induction k with
  | zero => intro left h; exact h
  | succ k ih =>
    intro left h
    unfold bw_swk
    split
    · exact h
    · exact ih _ (bw_sw_keep hC h 40 (Nat.le_refl 40))
theorem bw_swk_none {src : Nat → Int64} {cv : Int64} (hcv : ∀ i, bw_m cv i = true → i < 40) (hno : ∀ C : Int64, (∀ i, bw_m C i = true → bw_m cv i = true) → (∀ c, bw_m C c = true → ∃ a, bw_m C a = true ∧ bw_m (src c) a = true) → C = 0) : ∀ (k : Nat) (left : Int64), (∀ i, bw_m left i = true → bw_m cv i = true) → bw_c left 64 ≤ k → bw_swk src k left = 0 := by
  intro k
  induction k with
  | zero =>
    intro left _ h
    unfold bw_swk
    by_cases z : left = 0
    · exact z
    · obtain ⟨i, hi, hm⟩ := bw_nz z
      have : bw_c 0 64 < bw_c left 64 := bw_c_lt (fun j _ h => by rw [bw_0] at h; cases h) ⟨i, hi, bw_0 i, hm⟩
      omega
  | succ k ih =>
    intro left hl h
    unfold bw_swk
    by_cases z : left = 0
    · rw [if_pos z]; exact z
    · rw [if_neg z]
      have hs := bw_sw_sub (src := src) (left := left) 40 (Nat.le_refl 40)
      refine ih _ (fun i hi => hl i (hs i hi)) ?_
      by_cases e : ∀ i, bw_m left i = true → bw_m (bw_sw src left 40) i = true
      · exact absurd (hno left hl (bw_sw_fix (fun i hi => hcv i (hl i hi)) e)) z
      · obtain ⟨i, hi⟩ := Classical.not_forall.mp e
        obtain ⟨h1, h2⟩ := Classical.not_imp.mp hi
        have : bw_c (bw_sw src left 40) 64 < bw_c left 64 := bw_c_lt (fun j _ h => hs j h) ⟨i, bw_lt h1, by
          cases hx : bw_m (bw_sw src left 40) i with
          | false => rfl
          | true => exact absurd hx h2, h1⟩
        omega
/-- the class's isPlain: no circle. The reference's: r is a set that a sweep leaves as it is, and none that must stay has gone -/
theorem bw_plain_eq {src dst : Nat → Int64} {cv r : Int64} (hcv : ∀ i, bw_m cv i = true → i < 40) (hsd : ∀ a b, bw_m cv a = true → bw_m cv b = true → (bw_m (src b) a = true ↔ bw_m (dst a) b = true))
    (hr0 : ∀ i, bw_m r i = true → bw_m cv i = true) (hr1 : ∀ c, bw_m r c = true → ∃ a, bw_m r a = true ∧ bw_m (dst c) a = true)
    (hr2 : ∀ C : Int64, (∀ i, bw_m C i = true → bw_m cv i = true) → (∀ c, bw_m C c = true → ∃ a, bw_m C a = true ∧ bw_m (dst c) a = true) → ∀ i, bw_m C i = true → bw_m r i = true) :
    bw_swk src 40 cv = 0 ↔ r = 0 := by
  constructor
  · intro h
    by_cases z : r = 0
    · exact z
    · exfalso
      obtain ⟨C, c0, c1, c2⟩ := bw_circ (fun a b => bw_m (dst b) a = true) 64 r (bw_c_le _ _) z hr1
      have hC : ∀ c, bw_m C c = true → ∃ a, bw_m C a = true ∧ bw_m (src c) a = true := fun c hc => by
        obtain ⟨a, h1, h2⟩ := c2 c hc
        exact ⟨a, h1, (hsd a c (hr0 a (c1 a h1)) (hr0 c (c1 c hc))).mpr h2⟩
      obtain ⟨i, -, hi⟩ := bw_nz c0
      have := bw_swk_keep hC 40 cv (fun i hi => hr0 i (c1 i hi)) i hi
      rw [h, bw_0] at this; cases this
  · intro h
    have hc40 : bw_c cv 64 ≤ 40 := by
      rw [bw_c_cut (k := 40) (fun i hi => by
        cases hx : bw_m cv i with
        | false => rfl
        | true => exact absurd (hcv i hx) (by omega)) 64 (by omega)]
      exact bw_c_le _ _
    refine bw_swk_none hcv (fun C h1 h2 => ?_) 40 cv (fun _ h => h) hc40
    by_cases z : C = 0
    · exact z
    · exfalso
      obtain ⟨C', c0, c1, c2⟩ := bw_circ (fun a b => bw_m (src b) a = true) 64 C (bw_c_le _ _) z h2
      obtain ⟨i, -, hi⟩ := bw_nz c0
      have := hr2 C' (fun i hi => h1 i (c1 i hi)) (fun c hc => by
        obtain ⟨a, q1, q2⟩ := c2 c hc
        exact ⟨a, q1, (hsd c a (h1 c (c1 c hc)) (h1 a (c1 a q1))).mp q2⟩) i hi
      rw [h, bw_0] at this; cases this
/-- the smallest round round b, by the counts of its blocks -/
def bw_sm (bl : Nat → Int64) (b : Nat) : Nat → Option Nat
  | 0 => none
  | n + 1 => match bw_sm bl b n with
    | none => if bw_m (bl n) b = true then some n else none
    | some k => if (bw_m (bl n) b && decide (bw_c (bl n) 40 < bw_c (bl k) 40)) = true then some n else some k
theorem bw_sm_lt {bl : Nat → Int64} {b : Nat} : ∀ {n k : Nat}, bw_sm bl b n = some k → k < n := by
  intro n
  induction n with
  | zero => intro k h; cases h
  | succ n ih =>
    intro k h
    unfold bw_sm at h
    split at h
    · split at h
      · cases h; omega
      · cases h
    · rename_i k' e
      split at h
      · cases h; omega
      · cases h; have := ih e; omega
theorem bw_sm_ext {bl bl' : Nat → Int64} {b : Nat} : ∀ {n : Nat}, (∀ i, i < n → bl i = bl' i) → bw_sm bl b n = bw_sm bl' b n := by
  intro n
  induction n with
  | zero => intro _; rfl
  | succ n ih =>
    intro h
    unfold bw_sm
    rw [ih (fun i hi => h i (by omega)), h n (by omega)]
    split
    · rfl
    · rename_i k e
      rw [h k (by have := bw_sm_lt e; omega)]
def bw_h (o : Option Nat) : Int32 := match o with
  | none => -1
  | some k => nI k
end
section
/-! PURE 6: what ties the class's state to the reference's -/
def bw_Rel (T : Int64) (tc : Nat → Int32) (st sb : Nat → Int64) (mn tg : Nat → Int32) : Prop :=
  bw_40 T ∧ bw_sb st sb ∧ ∃ (n : Nat → Nat) (t : Nat → Nat → Nat), ∀ b, b < 40 → n b ≤ 4 ∧ tc b = nI (n b) ∧ (bw_m T b = true → mn b = nI (n b)) ∧ (bw_m T b = false → n b = 0) ∧ (∀ j, j < n b → tg (4 * b + j) = nI (t b j) ∧ t b j < 40) ∧ ∀ i, bw_m (st b) i = true ↔ ∃ j, j < n b ∧ t b j = i
theorem bw_Rel_0 {mn tg : Nat → Int32} : bw_Rel 0 (fun _ => 0) (fun _ => 0) (fun _ => 0) mn tg := by
  have z : ∀ {i : Nat} {P : Prop}, bw_m 0 i = true → P := fun {i} {P} h => by rw [bw_0] at h; cases h
  refine ⟨fun i h => z h, ⟨fun a b _ _ => by rw [bw_0, bw_0], fun b a _ h => z h, fun b a _ h => z h⟩, fun _ => 0, fun _ _ => 0, fun b _ => ⟨Nat.zero_le 4, rfl, fun h => z h, fun _ => rfl, fun j h => absurd h (Nat.not_lt_zero j), fun i => ?_⟩⟩
  rw [bw_0]
  constructor
  · intro h; cases h
  · rintro ⟨j, h, -⟩; exact absurd h (Nat.not_lt_zero j)
theorem bw_Rel_block {T : Int64} {tc mn tg : Nat → Int32} {st sb : Nat → Int64} {b : Nat} (h : bw_Rel T tc st sb mn tg) (hb : b < 40) (hT : bw_m T b = false) : bw_Rel (T ||| bw_b b) tc st sb (upd mn b 0) tg := by
  obtain ⟨h1, h2, n, t, h3⟩ := h
  have hm : ∀ i, bw_m (T ||| bw_b b) i = (bw_m T i || decide (b = i)) := fun i => by rw [bw_or, bw_bit (by omega)]
  refine ⟨fun i hi => ?_, h2, n, t, fun x hx => ?_⟩
  · rw [hm, Bool.or_eq_true, decide_eq_true_eq] at hi
    rcases hi with hi | hi
    · exact h1 i hi
    · omega
  · obtain ⟨q1, q2, q3, q4, q5, q6⟩ := h3 x hx
    refine ⟨q1, q2, fun hq => ?_, fun hq => ?_, q5, q6⟩
    · by_cases e : x = b
      · subst e
        rw [pk_us, q4 hT]; rfl
      · rw [pk_un e]
        rw [hm, Bool.or_eq_true, decide_eq_true_eq] at hq
        rcases hq with hq | hq
        · exact q3 hq
        · exact absurd hq.symm e
    · rw [hm, Bool.or_eq_false_iff] at hq
      exact q4 hq.1
theorem bw_Rel_target {T : Int64} {tc mn tg : Nat → Int32} {st sb : Nat → Int64} {b to k : Nat} (h : bw_Rel T tc st sb mn tg) (hb : b < 40) (ht : to < 40) (hT : bw_m T b = true) (hk : tc b = nI k) (hk4 : k < 4) :
    bw_Rel T (upd tc b (nI (k + 1))) (vp_updL st b (st b ||| bw_b to)) (vp_updL sb to (sb to ||| bw_b b)) (upd mn b (nI (k + 1))) (upd tg (4 * b + k) (nI to)) := by
  obtain ⟨h1, h2, n, t, h3⟩ := h
  obtain ⟨b1, b2, b3, b4, b5, b6⟩ := h3 b hb
  have hn : n b = k := (nI_eq (by omega) (by omega)).mp (b2.symm.trans hk)
  have hst : ∀ x i, bw_m (vp_updL st b (st b ||| bw_b to) x) i = true ↔ bw_m (st x) i = true ∨ (x = b ∧ to = i) := by
    intro x i
    by_cases e : x = b
    · subst e
      rw [pk_uLs, bw_or, bw_bit (by omega), Bool.or_eq_true, decide_eq_true_eq]; simp
    · rw [pk_uLn e]; simp [e]
  have hsb : ∀ x i, bw_m (vp_updL sb to (sb to ||| bw_b b) x) i = true ↔ bw_m (sb x) i = true ∨ (x = to ∧ b = i) := by
    intro x i
    by_cases e : x = to
    · subst e
      rw [pk_uLs, bw_or, bw_bit (by omega), Bool.or_eq_true, decide_eq_true_eq]; simp
    · rw [pk_uLn e]; simp [e]
  refine ⟨h1, ⟨fun x y hx hy => ?_, fun y x hy hq => ?_, fun x y hx hq => ?_⟩, fun x => if x = b then k + 1 else n x, fun x j => if x = b ∧ j = k then to else t x j, fun x hx => ?_⟩
  · rw [hst, hsb, h2.1 x y hx hy]
    constructor
    · rintro (q | ⟨q1, q2⟩)
      · exact Or.inl q
      · exact Or.inr ⟨q2.symm, q1.symm⟩
    · rintro (q | ⟨q1, q2⟩)
      · exact Or.inl q
      · exact Or.inr ⟨q2.symm, q1.symm⟩
  · rcases (hsb y x).mp hq with q | q
    · exact h2.2.1 y x hy q
    · omega
  · rcases (hst x y).mp hq with q | q
    · exact h2.2.2 x y hx q
    · omega
  · obtain ⟨q1, q2, q3, q4, q5, q6⟩ := h3 x hx
    dsimp only
    by_cases e : x = b
    · subst e
      rw [if_pos rfl]
      refine ⟨by omega, pk_us, fun _ => pk_us, fun hq => (by rw [hT] at hq; cases hq), fun j hj => ?_, fun i => ?_⟩
      · by_cases ej : j = k
        · subst ej
          simp only [true_and, if_true]
          exact ⟨pk_us, ht⟩
        · have := q5 j (by omega)
          rw [if_neg (fun z => ej z.2), pk_un (by omega)]
          exact this
      · rw [hst, q6]
        constructor
        · rintro (⟨j, j1, j2⟩ | ⟨-, j2⟩)
          · exact ⟨j, by omega, by rw [if_neg (fun z => by omega)]; exact j2⟩
          · exact ⟨k, by omega, by rw [if_pos ⟨rfl, rfl⟩]; exact j2⟩
        · rintro ⟨j, j1, j2⟩
          by_cases ej : j = k
          · subst ej
            rw [if_pos ⟨rfl, rfl⟩] at j2
            exact Or.inr ⟨rfl, j2⟩
          · rw [if_neg (fun z => ej z.2)] at j2
            exact Or.inl ⟨j, by omega, j2⟩
    · rw [if_neg e, pk_un e, pk_un e]
      refine ⟨q1, q2, q3, q4, fun j hj => ?_, fun i => ?_⟩
      · rw [if_neg (fun z => e z.1), pk_un (by omega)]
        exact q5 j hj
      · rw [hst, q6]
        constructor
        · rintro (⟨j, j1, j2⟩ | ⟨j1, -⟩)
          · exact ⟨j, j1, by rw [if_neg (fun z => e z.1)]; exact j2⟩
          · exact absurd j1 e
        · rintro ⟨j, j1, j2⟩
          rw [if_neg (fun z => e z.1)] at j2
          exact Or.inl ⟨j, j1, j2⟩
/-- a row with b taken out of all -/
def bw_out (sb : Nat → Int64) (b n : Nat) : Nat → Int64 := fun j => if j < n then sb j &&& (bw_b b ^^^ (-1)) else sb j
theorem bw_Rel_drop {T : Int64} {tc mn tg : Nat → Int32} {st sb : Nat → Int64} {b : Nat} (h : bw_Rel T tc st sb mn tg) (hb : b < 40) :
    bw_Rel (T &&& (bw_b b ^^^ (-1))) (upd tc b 0) (vp_updL st b 0) (bw_out sb b 40) mn tg := by
  obtain ⟨h1, h2, n, t, h3⟩ := h
  have hm : ∀ i, bw_m (T &&& (bw_b b ^^^ (-1))) i = (bw_m T i && !decide (b = i)) := fun i => by rw [bw_dif, bw_bit (by omega)]
  have hst : ∀ x i, bw_m (vp_updL st b 0 x) i = true ↔ bw_m (st x) i = true ∧ x ≠ b := by
    intro x i
    by_cases e : x = b
    · subst e
      rw [pk_uLs, bw_0]; simp
    · rw [pk_uLn e]; simp [e]
  have hsb : ∀ x i, x < 40 → (bw_m (bw_out sb b 40 x) i = true ↔ bw_m (sb x) i = true ∧ b ≠ i) := by
    intro x i hx
    unfold bw_out
    rw [if_pos hx, bw_dif, bw_bit (by omega), Bool.and_eq_true]; simp
  refine ⟨fun i hi => ?_, ⟨fun x y hx hy => ?_, fun y x hy hq => h2.2.1 y x hy ((hsb y x hy).mp hq).1, fun x y hx hq => h2.2.2 x y hx ((hst x y).mp hq).1⟩, fun x => if x = b then 0 else n x, t, fun x hx => ?_⟩
  · rw [hm, Bool.and_eq_true] at hi
    exact h1 i hi.1
  · rw [hst, hsb y x hy, h2.1 x y hx hy]
    exact ⟨fun q => ⟨q.1, fun z => q.2 z.symm⟩, fun q => ⟨q.1, fun z => q.2 z.symm⟩⟩
  · obtain ⟨q1, q2, q3, q4, q5, q6⟩ := h3 x hx
    dsimp only
    by_cases e : x = b
    · subst e
      rw [if_pos rfl]
      refine ⟨by omega, pk_us, fun hq => ?_, fun _ => rfl, fun j hj => by omega, fun i => ?_⟩
      · rw [hm] at hq; simp at hq
      · rw [hst]
        constructor
        · rintro ⟨-, z⟩; exact absurd rfl z
        · rintro ⟨j, j1, -⟩; omega
    · rw [if_neg e, pk_un e]
      refine ⟨q1, q2, fun hq => ?_, fun hq => ?_, q5, fun i => ?_⟩
      · rw [hm, Bool.and_eq_true] at hq; exact q3 hq.1
      · rw [hm] at hq
        refine q4 ?_
        have : ¬ b = x := fun z => e z.symm
        simpa [this] using hq
      · rw [hst, ← q6]
        exact ⟨fun z => z.1, fun z => ⟨z, e⟩⟩
end
section
/-! PURE 3: Long.bitCount counts bits -/
def bp_v : List Nat → Nat
  | [] => 0
  | b :: bs => b + 256 * bp_v bs
def bp_k (c : Nat) : Nat → Nat
  | 0 => 0
  | n + 1 => c + 256 * bp_k c n
theorem bp_and {a b m M h : Nat} (ha : a < 256) (hm : m < 256) (e : a &&& m = b) : (a + 256 * h) &&& (m + 256 * M) = b + 256 * (h &&& M) := by
  have h1 : ((a + 256 * h) &&& (m + 256 * M)) % 2 ^ 8 = b := by
    rw [Nat.and_mod_two_pow]
    have e1 : (a + 256 * h) % 2 ^ 8 = a := by omega
    have e2 : (m + 256 * M) % 2 ^ 8 = m := by omega
    rw [e1, e2, e]
  have h2 : ((a + 256 * h) &&& (m + 256 * M)) / 2 ^ 8 = h &&& M := by
    rw [Nat.and_div_two_pow]
    have e1 : (a + 256 * h) / 2 ^ 8 = h := by omega
    have e2 : (m + 256 * M) / 2 ^ 8 = M := by omega
    rw [e1, e2]
  omega
theorem bp_b1 : ∀ t, t < 2 → ∀ b, b < 256 → (b / 2 + 128 * t) &&& 85 = (b / 2) &&& 85 := by decide +kernel
theorem bp_b2 : ∀ t, t < 4 → ∀ b, b < 256 → (b / 4 + 64 * t) &&& 51 = (b / 4) &&& 51 := by decide +kernel
def bp_f1 (b : Nat) : Nat := b - ((b / 2) &&& 85)
def bp_f2 (b : Nat) : Nat := (b &&& 51) + ((b / 4) &&& 51)
def bp_f3 (b : Nat) : Nat := (b + b / 16) &&& 15
theorem bp_s1 : ∀ l : List Nat, (∀ b ∈ l, b < 256) → ((bp_v l / 2) &&& bp_k 85 l.length) = bp_v (l.map fun b => (b / 2) &&& 85) := by
  intro l
  induction l with
  | nil => intro _; rfl
  | cons b l ih =>
    intro h
    have hb := h b List.mem_cons_self
    have e : bp_v (b :: l) / 2 = (b / 2 + 128 * (bp_v l % 2)) + 256 * (bp_v l / 2) := by show (b + 256 * bp_v l) / 2 = _; omega
    rw [e]
    show _ &&& (85 + 256 * bp_k 85 l.length) = ((b / 2) &&& 85) + 256 * bp_v (l.map fun b => (b / 2) &&& 85)
    rw [bp_and (by omega) (by omega) (bp_b1 _ (Nat.mod_lt _ (by omega)) b hb), ih (fun c hc => h c (List.mem_cons_of_mem _ hc))]
theorem bp_s2 : ∀ l : List Nat, (∀ b ∈ l, b < 256) → ((bp_v l / 4) &&& bp_k 51 l.length) = bp_v (l.map fun b => (b / 4) &&& 51) := by
  intro l
  induction l with
  | nil => intro _; rfl
  | cons b l ih =>
    intro h
    have hb := h b List.mem_cons_self
    have e : bp_v (b :: l) / 4 = (b / 4 + 64 * (bp_v l % 4)) + 256 * (bp_v l / 4) := by show (b + 256 * bp_v l) / 4 = _; omega
    rw [e]
    show _ &&& (51 + 256 * bp_k 51 l.length) = ((b / 4) &&& 51) + 256 * bp_v (l.map fun b => (b / 4) &&& 51)
    rw [bp_and (by omega) (by omega) (bp_b2 _ (Nat.mod_lt _ (by omega)) b hb), ih (fun c hc => h c (List.mem_cons_of_mem _ hc))]
theorem bp_s2' : ∀ l : List Nat, (∀ b ∈ l, b < 256) → (bp_v l &&& bp_k 51 l.length) = bp_v (l.map fun b => b &&& 51) := by
  intro l
  induction l with
  | nil => intro _; rfl
  | cons b l ih =>
    intro h
    show (b + 256 * bp_v l) &&& (51 + 256 * bp_k 51 l.length) = (b &&& 51) + 256 * bp_v (l.map fun b => b &&& 51)
    rw [bp_and (h b List.mem_cons_self) (by omega) rfl, ih (fun c hc => h c (List.mem_cons_of_mem _ hc))]
theorem bp_sub : ∀ (l : List Nat) (f g : Nat → Nat), (∀ b ∈ l, g b ≤ f b) → bp_v (l.map f) - bp_v (l.map g) = bp_v (l.map fun b => f b - g b) ∧ bp_v (l.map g) ≤ bp_v (l.map f) := by
  intro l f g
  induction l with
  | nil => intro _; exact ⟨rfl, Nat.le_refl 0⟩
  | cons b l ih =>
    intro h
    obtain ⟨i1, i2⟩ := ih (fun c hc => h c (List.mem_cons_of_mem _ hc))
    have hb := h b List.mem_cons_self
    show (f b + 256 * bp_v (l.map f)) - (g b + 256 * bp_v (l.map g)) = (f b - g b) + 256 * bp_v (l.map fun b => f b - g b) ∧ g b + 256 * bp_v (l.map g) ≤ f b + 256 * bp_v (l.map f)
    rw [← i1]
    omega
theorem bp_add : ∀ (l : List Nat) (f g : Nat → Nat), bp_v (l.map f) + bp_v (l.map g) = bp_v (l.map fun b => f b + g b) := by
  intro l f g
  induction l with
  | nil => rfl
  | cons b l ih =>
    show (f b + 256 * bp_v (l.map f)) + (g b + 256 * bp_v (l.map g)) = (f b + g b) + 256 * bp_v (l.map fun b => f b + g b)
    rw [← ih]; omega
theorem bp_b3 : ∀ t, t < 5 → ∀ b, b < 69 → (16 * t + (b + b / 16)) &&& 15 = (b + b / 16) &&& 15 := by decide +kernel
theorem bp_s3 : ∀ l : List Nat, (∀ b ∈ l, b < 69 ∧ b % 16 < 5) → ((bp_v l + bp_v l / 16) &&& bp_k 15 l.length) = bp_v (l.map bp_f3) := by
  intro l
  induction l with
  | nil => intro _; rfl
  | cons b l ih =>
    intro h
    have hb := h b List.mem_cons_self
    have ht : bp_v l % 16 < 5 := by
      cases l with
      | nil => show 0 % 16 < 5; omega
      | cons d l =>
        have := (h d (List.mem_cons_of_mem _ List.mem_cons_self)).2
        show (d + 256 * bp_v l) % 16 < 5
        omega
    have e : bp_v (b :: l) + bp_v (b :: l) / 16 = (16 * (bp_v l % 16) + (b + b / 16)) + 256 * (bp_v l + bp_v l / 16) := by show (b + 256 * bp_v l) + (b + 256 * bp_v l) / 16 = _; omega
    rw [e]
    show _ &&& (15 + 256 * bp_k 15 l.length) = bp_f3 b + 256 * bp_v (l.map bp_f3)
    rw [bp_and (by omega) (by omega) (bp_b3 _ ht b hb.1), ih (fun c hc => h c (List.mem_cons_of_mem _ hc))]
    rfl
/-- bits of a number -/
def bp_c (x : Nat) : Nat → Nat
  | 0 => 0
  | n + 1 => bp_c x n + (x.testBit n).toNat
theorem bp_f : ∀ b, b < 256 → bp_f1 b < 256 ∧ ((b / 2) &&& 85) ≤ b ∧ bp_f2 (bp_f1 b) < 69 ∧ bp_f2 (bp_f1 b) % 16 < 5 ∧ bp_f3 (bp_f2 (bp_f1 b)) = bp_c b 8 := by decide +kernel
def bp_sum : List Nat → Nat
  | [] => 0
  | b :: bs => b + bp_sum bs
theorem bp_c8 {b h : Nat} (hb : b < 256) : ∀ n, bp_c (b + 256 * h) (8 + n) = bp_c b 8 + bp_c h n := by
  have lo : ∀ k, k ≤ 8 → bp_c (b + 256 * h) k = bp_c b k := by
    intro k
    induction k with
    | zero => intro _; rfl
    | succ k ih =>
      intro hk
      show bp_c (b + 256 * h) k + ((b + 256 * h).testBit k).toNat = bp_c b k + (b.testBit k).toNat
      rw [ih (by omega)]
      have : (b + 256 * h).testBit k = b.testBit k := by
        have e : b = (b + 256 * h) % 2 ^ 8 := by omega
        rw [e, Nat.testBit_mod_two_pow, ← e]
        simp [show k < 8 by omega]
      rw [this]
  intro n
  induction n with
  | zero => rw [Nat.add_zero, lo 8 (Nat.le_refl 8)]; rfl
  | succ n ih =>
    show bp_c (b + 256 * h) (8 + n) + ((b + 256 * h).testBit (8 + n)).toNat = bp_c b 8 + (bp_c h n + (h.testBit n).toNat)
    rw [ih]
    have e : (b + 256 * h) / 2 ^ 8 = h := by omega
    have : (b + 256 * h).testBit (8 + n) = ((b + 256 * h) / 2 ^ 8).testBit n := by rw [Nat.testBit_div_two_pow, Nat.add_comm 8 n]
    rw [this, e]
    omega
theorem bp_cnt : ∀ l : List Nat, (∀ b ∈ l, b < 256) → bp_c (bp_v l) (8 * l.length) = bp_sum (l.map fun b => bp_c b 8) := by
  intro l
  induction l with
  | nil => intro _; rfl
  | cons b l ih =>
    intro h
    have e : 8 * (b :: l).length = 8 + 8 * l.length := by simp only [List.length_cons]; omega
    rw [e]
    show bp_c (b + 256 * bp_v l) (8 + 8 * l.length) = bp_c b 8 + bp_sum (l.map fun b => bp_c b 8)
    rw [bp_c8 (h b List.mem_cons_self), ih (fun c hc => h c (List.mem_cons_of_mem _ hc))]
def bp_by : Nat → Nat → List Nat
  | 0, _ => []
  | n + 1, x => x % 256 :: bp_by n (x / 256)
theorem bp_by_v : ∀ (n x : Nat), x < 256 ^ n → bp_v (bp_by n x) = x := by
  intro n
  induction n with
  | zero => intro x h; have : x = 0 := by simpa using h
            subst this; rfl
  | succ n ih =>
    intro x h
    have h1 : x / 256 < 256 ^ n := Nat.div_lt_of_lt_mul (by rw [Nat.pow_succ, Nat.mul_comm] at h; exact h)
    show x % 256 + 256 * bp_v (bp_by n (x / 256)) = x
    rw [ih _ h1]
    exact Nat.mod_add_div x 256
theorem bp_by_lt : ∀ (n x : Nat), ∀ b ∈ bp_by n x, b < 256 := by
  intro n
  induction n with
  | zero => intro x b h; cases h
  | succ n ih =>
    intro x b h
    rcases List.mem_cons.mp h with h | h
    · rw [h]; exact Nat.mod_lt _ (by decide)
    · exact ih _ b h
def bp_bytes (x : Nat) : List Nat := [x % 256, x / 256 % 256, x / 256 / 256 % 256, x / 256 / 256 / 256 % 256, x / 256 / 256 / 256 / 256 % 256, x / 256 / 256 / 256 / 256 / 256 % 256, x / 256 / 256 / 256 / 256 / 256 / 256 % 256, x / 256 / 256 / 256 / 256 / 256 / 256 / 256 % 256]
theorem bp_bytes_e (x : Nat) : bp_bytes x = bp_by 8 x := rfl
theorem bp_bytes_v {x : Nat} (h : x < 18446744073709551616) : bp_v (bp_bytes x) = x := by
  rw [bp_bytes_e]
  exact bp_by_v 8 x h
theorem bp_bytes_lt (x : Nat) : ∀ b ∈ bp_bytes x, b < 256 := by
  rw [bp_bytes_e]
  exact bp_by_lt 8 x
theorem bp_c8le (b : Nat) : bp_c b 8 ≤ 8 := by
  have h : ∀ n, bp_c b n ≤ n := by
    intro n
    induction n with
    | zero => exact Nat.le_refl 0
    | succ n ih =>
      show bp_c b n + (b.testBit n).toNat ≤ n + 1
      have := Bool.toNat_le (b.testBit n)
      omega
  exact h 8
theorem bp_dv {A m : Nat} (C : Nat) (h : A < m) : (A + m * C) / m = C := by
  rw [Nat.add_mul_div_left _ _ (by omega), Nat.div_eq_of_lt h, Nat.zero_add]
theorem bp_i1 (c0 c1 c2 c3 c4 c5 c6 c7 : Nat) : (c0 + 256 * (c1 + 256 * (c2 + 256 * (c3 + 256 * (c4 + 256 * (c5 + 256 * (c6 + 256 * (c7 + 256 * 0)))))))) + (c1 + 256 * (c2 + 256 * (c3 + 256 * (c4 + 256 * (c5 + 256 * (c6 + 256 * (c7 + 256 * 0))))))) = ((c0 + c1) + 256 * (c1 + c2)) + 65536 * ((c2 + c3) + 256 * ((c3 + c4) + 256 * ((c4 + c5) + 256 * ((c5 + c6) + 256 * ((c6 + c7) + 256 * c7))))) := by omega
theorem bp_i2 (c0 c1 c2 c3 c4 c5 c6 c7 : Nat) : (((c0 + c1) + 256 * (c1 + c2)) + 65536 * ((c2 + c3) + 256 * ((c3 + c4) + 256 * ((c4 + c5) + 256 * ((c5 + c6) + 256 * ((c6 + c7) + 256 * c7)))))) + ((c2 + c3) + 256 * ((c3 + c4) + 256 * ((c4 + c5) + 256 * ((c5 + c6) + 256 * ((c6 + c7) + 256 * c7))))) = ((c0 + c1 + c2 + c3) + 256 * (c1 + c2 + c3 + c4) + 65536 * (c2 + c3 + c4 + c5) + 16777216 * (c3 + c4 + c5 + c6)) + 4294967296 * ((c4 + c5 + c6 + c7) + 256 * ((c5 + c6 + c7) + 256 * ((c6 + c7) + 256 * c7))) := by omega
theorem bp_i3 (c0 c1 c2 c3 c4 c5 c6 c7 : Nat) : ∃ K, (((c0 + c1 + c2 + c3) + 256 * (c1 + c2 + c3 + c4) + 65536 * (c2 + c3 + c4 + c5) + 16777216 * (c3 + c4 + c5 + c6)) + 4294967296 * ((c4 + c5 + c6 + c7) + 256 * ((c5 + c6 + c7) + 256 * ((c6 + c7) + 256 * c7)))) + ((c4 + c5 + c6 + c7) + 256 * ((c5 + c6 + c7) + 256 * ((c6 + c7) + 256 * c7))) = (c0 + c1 + c2 + c3 + c4 + c5 + c6 + c7) + 128 * K := by
  refine ⟨2 * (c1 + c2 + c3 + c4) + 512 * (c2 + c3 + c4 + c5) + 131072 * (c3 + c4 + c5 + c6) + 33554432 * ((c4 + c5 + c6 + c7) + 256 * ((c5 + c6 + c7) + 256 * ((c6 + c7) + 256 * c7))) + 2 * ((c5 + c6 + c7) + 256 * ((c6 + c7) + 256 * c7)), ?_⟩
  omega
theorem bp_b8 (c0 c1 c2 c3 c4 c5 c6 c7 : Nat) (h0 : c0 ≤ 8) (h1 : c1 ≤ 8) (h2 : c2 ≤ 8) (h3 : c3 ≤ 8) (h4 : c4 ≤ 8) (h5 : c5 ≤ 8) (h6 : c6 ≤ 8) (h7 : c7 ≤ 8) : ((c0 + c1) + 256 * (c1 + c2)) < 65536 ∧ ((c0 + c1 + c2 + c3) + 256 * (c1 + c2 + c3 + c4) + 65536 * (c2 + c3 + c4 + c5) + 16777216 * (c3 + c4 + c5 + c6)) < 4294967296 ∧ ((c2 + c3) + 256 * ((c3 + c4) + 256 * ((c4 + c5) + 256 * ((c5 + c6) + 256 * ((c6 + c7) + 256 * c7))))) ≤ 9000000000000 ∧ ((c4 + c5 + c6 + c7) + 256 * ((c5 + c6 + c7) + 256 * ((c6 + c7) + 256 * c7))) ≤ 136000000 := by
  refine ⟨by omega, by omega, by omega, by omega⟩
theorem bp_e1 {P Q : Nat} (h : P < 65536) (h2 : Q ≤ 9000000000000) : P + 65536 * Q < 18446744073709551616 := by omega
theorem bp_e2 {P Q : Nat} (h : P < 4294967296) (h2 : Q ≤ 136000000) : P + 4294967296 * Q < 18446744073709551616 ∧ (P + 4294967296 * Q) + Q < 18446744073709551616 := by omega
theorem bp_fin (c0 c1 c2 c3 c4 c5 c6 c7 : Nat) (h0 : c0 ≤ 8) (h1 : c1 ≤ 8) (h2 : c2 ≤ 8) (h3 : c3 ≤ 8) (h4 : c4 ≤ 8) (h5 : c5 ≤ 8) (h6 : c6 ≤ 8) (h7 : c7 ≤ 8) (y y1 y2 y3 : Nat)
    (ey : y = c0 + 256 * (c1 + 256 * (c2 + 256 * (c3 + 256 * (c4 + 256 * (c5 + 256 * (c6 + 256 * (c7 + 256 * 0)))))))) (e1 : y1 = y + y / 256) (e2 : y2 = y1 + y1 / 65536) (e3 : y3 = y2 + y2 / 4294967296) :
    y3 % 128 = c0 + c1 + c2 + c3 + c4 + c5 + c6 + c7 ∧ y1 < 18446744073709551616 ∧ y2 < 18446744073709551616 ∧ y3 < 18446744073709551616 := by
  obtain ⟨b1, b2, b3, b4⟩ := bp_b8 c0 c1 c2 c3 c4 c5 c6 c7 h0 h1 h2 h3 h4 h5 h6 h7
  have i1 := bp_i1 c0 c1 c2 c3 c4 c5 c6 c7
  have i2 := bp_i2 c0 c1 c2 c3 c4 c5 c6 c7
  obtain ⟨K, i3⟩ := bp_i3 c0 c1 c2 c3 c4 c5 c6 c7
  have z1 : y1 = ((c0 + c1) + 256 * (c1 + c2)) + 65536 * ((c2 + c3) + 256 * ((c3 + c4) + 256 * ((c4 + c5) + 256 * ((c5 + c6) + 256 * ((c6 + c7) + 256 * c7))))) := by rw [e1, ey, bp_dv _ (Nat.lt_of_le_of_lt h0 (by decide))]; exact i1
  have z2 : y2 = ((c0 + c1 + c2 + c3) + 256 * (c1 + c2 + c3 + c4) + 65536 * (c2 + c3 + c4 + c5) + 16777216 * (c3 + c4 + c5 + c6)) + 4294967296 * ((c4 + c5 + c6 + c7) + 256 * ((c5 + c6 + c7) + 256 * ((c6 + c7) + 256 * c7))) := by rw [e2, z1, bp_dv _ b1]; exact i2
  have z3 : y3 = (((c0 + c1 + c2 + c3) + 256 * (c1 + c2 + c3 + c4) + 65536 * (c2 + c3 + c4 + c5) + 16777216 * (c3 + c4 + c5 + c6)) + 4294967296 * ((c4 + c5 + c6 + c7) + 256 * ((c5 + c6 + c7) + 256 * ((c6 + c7) + 256 * c7)))) + ((c4 + c5 + c6 + c7) + 256 * ((c5 + c6 + c7) + 256 * ((c6 + c7) + 256 * c7))) := by rw [e3, z2, bp_dv _ b2]
  have w3 : y3 = (c0 + c1 + c2 + c3 + c4 + c5 + c6 + c7) + 128 * K := by rw [z3]; exact i3
  have hs : c0 + c1 + c2 + c3 + c4 + c5 + c6 + c7 < 128 := by
    clear i1 i2 i3 z1 z2 z3 w3 e1 e2 e3 ey b1 b2 b3 b4
    omega
  refine ⟨by rw [w3, Nat.add_mul_mod_self_left, Nat.mod_eq_of_lt hs], ?_, ?_, ?_⟩
  · rw [z1]; exact bp_e1 b1 b3
  · rw [z2]; exact (bp_e2 b2 b4).1
  · rw [z3]; exact (bp_e2 b2 b4).2
theorem bp_h {x : Nat} (h : x < 5000000000000000000) : x < 18446744073709551616 ∧ x + x / 16 < 18446744073709551616 := by omega
theorem bp_69 (c0 c1 c2 c3 c4 c5 c6 c7 : Nat) (h0 : c0 < 69) (h1 : c1 < 69) (h2 : c2 < 69) (h3 : c3 < 69) (h4 : c4 < 69) (h5 : c5 < 69) (h6 : c6 < 69) (h7 : c7 < 69) :
    c0 + 256 * (c1 + 256 * (c2 + 256 * (c3 + 256 * (c4 + 256 * (c5 + 256 * (c6 + 256 * (c7 + 256 * 0))))))) < 5000000000000000000 := by omega
/-- the whole of it, on numbers below 2^64 -/
theorem bp_all {x x1 x2 x3 y1 y2 y3 : Nat} (hx : x < 18446744073709551616) (e1 : x1 = x - ((x / 2) &&& 6148914691236517205)) (e2 : x2 = (x1 &&& 3689348814741910323) + ((x1 / 4) &&& 3689348814741910323))
    (e3 : x3 = (x2 + x2 / 16) &&& 1085102592571150095) (f1 : y1 = x3 + x3 / 256) (f2 : y2 = y1 + y1 / 65536) (f3 : y3 = y2 + y2 / 4294967296) :
    y3 % 128 = bp_c x 64 ∧ ((x / 2) &&& 6148914691236517205) ≤ x ∧ x2 < 18446744073709551616 ∧ x2 + x2 / 16 < 18446744073709551616 ∧ y1 < 18446744073709551616 ∧ y2 < 18446744073709551616 ∧ y3 < 18446744073709551616 := by
  have hv := bp_bytes_v hx
  have hl := bp_bytes_lt x
  have hc := bp_cnt (bp_bytes x) hl
  have hlen : (bp_bytes x).length = 8 := rfl
  rw [hv] at hc
  have s1 := bp_s1 (bp_bytes x) hl
  rw [hv] at s1
  have k1 : bp_k 85 (bp_bytes x).length = 6148914691236517205 := rfl
  rw [k1] at s1
  have d1 := bp_sub (bp_bytes x) (fun b => b) (fun b => (b / 2) &&& 85) (fun b hb => (bp_f b (hl b hb)).2.1)
  rw [List.map_id' (bp_bytes x), hv] at d1
  rw [← s1] at d1
  have z1 : x1 = bp_v ((bp_bytes x).map bp_f1) := by rw [e1, d1.1]; rfl
  have l1 : ∀ b ∈ (bp_bytes x).map bp_f1, b < 256 := by
    intro b hb
    obtain ⟨a, ha, rfl⟩ := List.mem_map.mp hb
    exact (bp_f a (hl a ha)).1
  have k2 : bp_k 51 ((bp_bytes x).map bp_f1).length = 3689348814741910323 := rfl
  have s2 := bp_s2 _ l1
  have s2' := bp_s2' _ l1
  rw [k2, ← z1] at s2 s2'
  have z2 : x2 = bp_v ((bp_bytes x).map fun b => bp_f2 (bp_f1 b)) := by
    rw [e2, s2, s2', bp_add, List.map_map]; rfl
  have l2 : ∀ b ∈ (bp_bytes x).map (fun b => bp_f2 (bp_f1 b)), b < 69 ∧ b % 16 < 5 := by
    intro b hb
    obtain ⟨a, ha, rfl⟩ := List.mem_map.mp hb
    have := bp_f a (hl a ha)
    exact ⟨this.2.2.1, this.2.2.2.1⟩
  have k3 : bp_k 15 ((bp_bytes x).map (fun b => bp_f2 (bp_f1 b))).length = 1085102592571150095 := rfl
  have s3 := bp_s3 _ l2
  rw [k3, ← z2] at s3
  have z3 : x3 = bp_v ((bp_bytes x).map fun b => bp_c b 8) := by
    rw [e3, s3, List.map_map]
    congr 1
    refine List.map_congr_left fun a ha => ?_
    exact (bp_f a (hl a ha)).2.2.2.2
  have hx2 : x2 < 5000000000000000000 := by
    rw [z2]
    have q := fun a => (bp_f (a % 256) (Nat.mod_lt _ (by decide))).2.2.1
    simp only [bp_bytes, List.map_cons, List.map_nil, bp_v]
    exact bp_69 _ _ _ _ _ _ _ _ (q (x)) (q (x / 256)) (q (x / 256 / 256)) (q (x / 256 / 256 / 256)) (q (x / 256 / 256 / 256 / 256)) (q (x / 256 / 256 / 256 / 256 / 256)) (q (x / 256 / 256 / 256 / 256 / 256 / 256)) (q (x / 256 / 256 / 256 / 256 / 256 / 256 / 256))
  simp only [bp_bytes, List.map_cons, List.map_nil, bp_v] at z3
  have fin := bp_fin _ _ _ _ _ _ _ _ (bp_c8le (x % 256)) (bp_c8le (x / 256 % 256)) (bp_c8le (x / 256 / 256 % 256)) (bp_c8le (x / 256 / 256 / 256 % 256)) (bp_c8le (x / 256 / 256 / 256 / 256 % 256)) (bp_c8le (x / 256 / 256 / 256 / 256 / 256 % 256)) (bp_c8le (x / 256 / 256 / 256 / 256 / 256 / 256 % 256)) (bp_c8le (x / 256 / 256 / 256 / 256 / 256 / 256 / 256 % 256)) x3 y1 y2 y3 z3 f1 f2 f3
  refine ⟨?_, d1.2, (bp_h hx2).1, (bp_h hx2).2, fin.2.1, fin.2.2.1, fin.2.2.2⟩
  rw [fin.1]
  have : bp_c x 64 = bp_c x (8 * (bp_bytes x).length) := rfl
  rw [this, hc]
  simp only [bp_bytes, List.map_cons, List.map_nil, bp_sum, Nat.add_assoc, Nat.add_zero]
end
section
/-! Long.bitCount's own arithmetic, on longs -/
def bu (x : Int64) : Nat := x.toUInt64.toNat
theorem bu_lt (x : Int64) : bu x < 18446744073709551616 := x.toUInt64.toNat_lt
theorem bu_add {x y : Int64} (h : bu x + bu y < 18446744073709551616) : bu (x + y) = bu x + bu y := by
  show (x.toUInt64 + y.toUInt64).toNat = _
  rw [UInt64.toNat_add]
  exact Nat.mod_eq_of_lt h
theorem bu_sub {x y : Int64} (h : bu y ≤ bu x) : bu (x - y) = bu x - bu y := by
  show (x.toUInt64 - y.toUInt64).toNat = _
  exact UInt64.toNat_sub_of_le _ _ (UInt64.le_iff_toNat_le.mpr h)
theorem bu_and (x y : Int64) : bu (x &&& y) = bu x &&& bu y := UInt64.toNat_and _ _
theorem bu_shr (x : Int64) (s : UInt64) {k : Nat} (h : s.toNat % 64 = k) : bu (x.toUInt64 >>> s).toInt64 = bu x / 2 ^ k := by
  show (x.toUInt64 >>> s).toNat = _
  rw [UInt64.toNat_shiftRight, Nat.shiftRight_eq_div_pow, h]
  rfl
theorem bu_c (x : Int64) (n : Nat) : bw_c x n = bp_c (bu x) n := by
  induction n with
  | zero => rfl
  | succ n ih =>
    show bw_c x n + (bw_m x n).toNat = bp_c (bu x) n + ((bu x).testBit n).toNat
    rw [ih]; rfl
theorem bu_low (x : Int64) : x.toInt32 &&& 127 = nI (bu x % 128) := by
  rw [pk_and x.toInt32 (m := 127) 7 (by decide)]
  congr 1
  rw [Int64.toBitVec_toInt32]
  have : (BitVec.signExtend 32 x.toBitVec).toNat = bu x % 2 ^ 32 := by
    rw [BitVec.signExtend_eq_setWidth_of_le _ (by decide), BitVec.toNat_setWidth]; rfl
  rw [this]
  omega
theorem bw_pop {x x1 x2 x3 y1 y2 y3 : Int64} (e1 : x1 = x - ((x.toUInt64 >>> ((1 : Int32).toInt64.toUInt64 &&& Int64.toUInt64 63)).toInt64 &&& 6148914691236517205))
    (e2 : x2 = (x1 &&& 3689348814741910323) + ((x1.toUInt64 >>> ((2 : Int32).toInt64.toUInt64 &&& Int64.toUInt64 63)).toInt64 &&& 3689348814741910323))
    (e3 : x3 = (x2 + (x2.toUInt64 >>> ((4 : Int32).toInt64.toUInt64 &&& Int64.toUInt64 63)).toInt64) &&& 1085102592571150095)
    (f1 : y1 = x3 + (x3.toUInt64 >>> ((8 : Int32).toInt64.toUInt64 &&& Int64.toUInt64 63)).toInt64) (f2 : y2 = y1 + (y1.toUInt64 >>> ((16 : Int32).toInt64.toUInt64 &&& Int64.toUInt64 63)).toInt64)
    (f3 : y3 = y2 + (y2.toUInt64 >>> ((32 : Int32).toInt64.toUInt64 &&& Int64.toUInt64 63)).toInt64) : y3.toInt32 &&& 127 = nI (bw_c x 64) := by
  obtain ⟨h1, h2, h3, h4, h5, h6, h7⟩ := bp_all (bu_lt x) rfl rfl rfl rfl rfl rfl
  have m1 : bu 6148914691236517205 = 6148914691236517205 := by decide +kernel
  have m2 : bu 3689348814741910323 = 3689348814741910323 := by decide +kernel
  have m3 : bu 1085102592571150095 = 1085102592571150095 := by decide +kernel
  have s1 : bu (x.toUInt64 >>> ((1 : Int32).toInt64.toUInt64 &&& Int64.toUInt64 63)).toInt64 = bu x / 2 := bu_shr x _ (k := 1) (by decide +kernel)
  have g1 : bu x1 = bu x - ((bu x / 2) &&& 6148914691236517205) := by
    rw [e1, bu_sub (by rw [bu_and, s1, m1]; exact h2), bu_and, s1, m1]
  rw [← g1] at h1 h3 h4 h5 h6 h7
  have s2 : bu (x1.toUInt64 >>> ((2 : Int32).toInt64.toUInt64 &&& Int64.toUInt64 63)).toInt64 = bu x1 / 4 := bu_shr x1 _ (k := 2) (by decide +kernel)
  have g2 : bu x2 = (bu x1 &&& 3689348814741910323) + ((bu x1 / 4) &&& 3689348814741910323) := by
    rw [e2, bu_add (by rw [bu_and, bu_and, s2, m2]; exact h3), bu_and, bu_and, s2, m2]
  rw [← g2] at h1 h4 h5 h6 h7
  have s3 : bu (x2.toUInt64 >>> ((4 : Int32).toInt64.toUInt64 &&& Int64.toUInt64 63)).toInt64 = bu x2 / 16 := bu_shr x2 _ (k := 4) (by decide +kernel)
  have g3 : bu x3 = (bu x2 + bu x2 / 16) &&& 1085102592571150095 := by
    rw [e3, bu_and, bu_add (by rw [s3]; exact h4), s3, m3]
  rw [← g3] at h1 h5 h6 h7
  have s4 : bu (x3.toUInt64 >>> ((8 : Int32).toInt64.toUInt64 &&& Int64.toUInt64 63)).toInt64 = bu x3 / 256 := bu_shr x3 _ (k := 8) (by decide +kernel)
  have k1 : bu y1 = bu x3 + bu x3 / 256 := by rw [f1, bu_add (by rw [s4]; exact h5), s4]
  rw [← k1] at h1 h6 h7
  have s5 : bu (y1.toUInt64 >>> ((16 : Int32).toInt64.toUInt64 &&& Int64.toUInt64 63)).toInt64 = bu y1 / 65536 := bu_shr y1 _ (k := 16) (by decide +kernel)
  have k2 : bu y2 = bu y1 + bu y1 / 65536 := by rw [f2, bu_add (by rw [s5]; exact h6), s5]
  rw [← k2] at h1 h7
  have s6 : bu (y2.toUInt64 >>> ((32 : Int32).toInt64.toUInt64 &&& Int64.toUInt64 63)).toInt64 = bu y2 / 4294967296 := bu_shr y2 _ (k := 32) (by decide +kernel)
  have k3 : bu y3 = bu y2 + bu y2 / 4294967296 := by rw [f3, bu_add (by rw [s6]; exact h7), s6]
  rw [← k3] at h1
  rw [bu_low, h1, bu_c]
end
