/-! the reference's look() -/
def bw_S (T : Int64) (n : Nat → Nat) (t : Nat → Nat → Nat) (b x : Nat) : Prop := bw_m T b = true ∧ bw_m T x = true ∧ ∃ j, j < n b ∧ t b j = x
def bw_kS (T : Int64) (n : Nat → Nat) (t : Nat → Nat → Nat) (i : Nat) (g : Nat → Int64) : Prop := ∀ b, b < i → ∀ x, bw_m (g b) x = true ↔ bw_S T n t b x
def bw_kE (T : Int64) (n : Nat → Nat) (i : Nat) (en : Int64) : Prop := ∀ x, bw_m en x = true ↔ x < i ∧ bw_m T x = true ∧ n x = 0
def bw_kZ (i : Nat) (g : Nat → Int64) : Prop := ∀ b, b < i → g b = 0
def bw_kI (T : Int64) (n : Nat → Nat) (t : Nat → Nat → Nat) (i j : Nat) (g : Nat → Int64) : Prop := bw_kS T n t i g ∧ (∀ x, bw_m (g i) x = true ↔ bw_m T x = true ∧ ∃ q, q < j ∧ t i q = x) ∧ (j = 0 ∨ (bw_m T i = true ∧ j ≤ n i))
section BWL
variable {T en : Int64} {n : Nat → Nat} {t : Nat → Nat → Nat} {i j : Nat} {g : Nat → Int64}
theorem bw_kS_0 : bw_kS T n t 0 g := fun b hb => by omega
theorem bw_kE_0 : bw_kE T n 0 0 := fun x => by
  rw [bw_0]
  constructor
  · intro h; cases h
  · rintro ⟨h, -⟩; omega
theorem bw_kZ_0 : bw_kZ 0 g := fun b hb => by omega
theorem bw_kS_u {v : Int64} (h : bw_kS T n t i g) : bw_kS T n t i (vp_updL g i v) := fun b hb x => by rw [pk_uLn (by omega)]; exact h b hb x
theorem bw_kI_0 (h : bw_kS T n t i g) : bw_kI T n t i 0 (vp_updL g i 0) := ⟨bw_kS_u h, fun x => by
  rw [pk_uLs, bw_0]
  constructor
  · intro z; cases z
  · rintro ⟨-, q, z, -⟩; omega, Or.inl rfl⟩
theorem bw_kI_s (h : bw_kI T n t i j g) (c : bw_m T i = true) (c2 : j < n i) (ht : t i j < 40) : bw_kI T n t i (j + 1) (vp_updL g i (g i ||| (bw_b (t i j) &&& T))) := ⟨bw_kS_u h.1, fun x => by
  rw [pk_uLs, bw_or, bw_and, Bool.or_eq_true, Bool.and_eq_true, h.2.1 x, bw_bit (by omega), decide_eq_true_eq]
  constructor
  · rintro (⟨z1, q, q1, q2⟩ | ⟨z1, z2⟩)
    · exact ⟨z1, q, by omega, q2⟩
    · exact ⟨z2, j, by omega, z1⟩
  · rintro ⟨z1, q, q1, q2⟩
    rcases Nat.lt_or_ge q j with z | z
    · exact Or.inl ⟨z1, q, z, q2⟩
    · have e : q = j := by omega
      subst e; exact Or.inr ⟨q2, z1⟩, Or.inr ⟨c, by omega⟩⟩
theorem bw_kS_s (h : bw_kI T n t i j g) (h2 : ∀ x, (bw_m T x = true ∧ ∃ q, q < j ∧ t i q = x) ↔ bw_S T n t i x) : bw_kS T n t (i + 1) g := fun b hb x => by
  rcases Nat.lt_or_ge b i with z | z
  · exact h.1 b z x
  · have e : b = i := by omega
    subst e; rw [h.2.1 x]; exact h2 x
theorem bw_kS_1 (h : bw_kI T n t i j g) (c : bw_m T i = false) : bw_kS T n t (i + 1) g := bw_kS_s h fun x => by
  have e : j = 0 := by
    rcases h.2.2 with z | z
    · exact z
    · rw [z.1] at c; cases c
  subst e
  constructor
  · rintro ⟨-, q, z, -⟩; omega
  · rintro ⟨z, -⟩; rw [z] at c; cases c
theorem bw_kS_2 (h : bw_kI T n t i j g) (c : bw_m T i = true) (c2 : n i ≤ j) : bw_kS T n t (i + 1) g := bw_kS_s h fun x => by
  constructor
  · rintro ⟨z, q, q1, q2⟩
    refine ⟨c, z, q, ?_, q2⟩
    rcases h.2.2 with y | y
    · omega
    · omega
  · rintro ⟨-, z, q, q1, q2⟩; exact ⟨z, q, by omega, q2⟩
theorem bw_kE_1 (h : bw_kE T n i en) (c : bw_m T i = false) : bw_kE T n (i + 1) en := fun x => (h x).trans (bw_lt_s (P := fun x => bw_m T x = true ∧ n x = 0) fun z => by rw [z.1] at c; cases c)
theorem bw_kE_2 (h : bw_kE T n i en) (c : ¬ n i = 0) : bw_kE T n (i + 1) en := fun x => (h x).trans (bw_lt_s (P := fun x => bw_m T x = true ∧ n x = 0) fun z => c z.2)
theorem bw_kE_3 (h : bw_kE T n i en) (hi : i < 40) (c1 : bw_m T i = true) (c2 : n i = 0) : bw_kE T n (i + 1) (en ||| bw_b i) := fun x => by
  rw [bw_or, Bool.or_eq_true, h x, bw_bit (by omega), decide_eq_true_eq]
  constructor
  · rintro (⟨z1, z2⟩ | z)
    · exact ⟨by omega, z2⟩
    · subst z; exact ⟨by omega, c1, c2⟩
  · rintro ⟨z1, z2⟩
    rcases Nat.lt_or_ge x i with z | z
    · exact Or.inl ⟨z, z2⟩
    · exact Or.inr (by omega)
theorem bw_kZ_s (h : bw_kZ i g) : bw_kZ (i + 1) (vp_updL g i 0) := fun b hb => by
  by_cases e : b = i
  · subst e; exact pk_uLs
  · rw [pk_uLn e]; exact h b (by omega)
/-- steps the other way -/
def bw_tr (ms : Nat → Int64) (a : Nat) : Int64 := bw_F (fun b => bw_m (ms b) a) bw_b 0 40
theorem bw_tr_m (ms : Nat → Int64) (a b : Nat) : bw_m (bw_tr ms a) b = true ↔ b < 40 ∧ bw_m (ms b) a = true := by
  unfold bw_tr
  rw [bw_F_m, bw_0]
  constructor
  · rintro (q | ⟨e, q1, q2, q3⟩)
    · cases q
    · rw [bw_bit (by omega)] at q3
      simp only [decide_eq_true_eq] at q3
      subst q3; exact ⟨q1, q2⟩
  · rintro ⟨q1, q2⟩
    exact Or.inr ⟨b, q1, q2, by rw [bw_bit (by omega)]; simp⟩
theorem bw_kS_ms (h : bw_kS T n t i g) (hi : i = 40) : bw_ms T g g := fun b hb x => by
  subst hi
  constructor
  · intro z
    have := (h b hb x).mp z
    exact ⟨this.1, z, this.2.1⟩
  · exact fun z => z.2.1
theorem bw_kS_sb (h40 : bw_40 T) (h : bw_kS T n t i g) (hi : i = 40) : bw_sb g (bw_tr g) := by
  subst hi
  refine ⟨fun a b ha hb => ?_, fun b a _ z => ((bw_tr_m g b a).mp z).1, fun a b ha z => h40 b ((h a ha b).mp z).2.1⟩
  rw [bw_tr_m]
  exact ⟨fun z => z.2, fun z => ⟨ha, z⟩⟩
/-- one column of over, behind -/
def bw_oO (D : Nat → Nat → Prop) (i : Nat) (g : Nat → Int64) : Prop := ∀ b, b < 40 → ∀ d, bw_m (g b) d = true ↔ d < i ∧ D d b
def bw_oI (D : Nat → Nat → Prop) (i j : Nat) (g : Nat → Int64) : Prop := ∀ b, b < 40 → ∀ d, bw_m (g b) d = true ↔ (d < i ∧ D d b) ∨ (d = i ∧ b < j ∧ D i b)
variable {D : Nat → Nat → Prop} {nn : Int64}
theorem bw_oO_0 (h : bw_kZ i g) (hi : i = 40) : bw_oO D 0 g := fun b hb d => by
  subst hi
  rw [h b hb, bw_0]
  constructor
  · intro z; cases z
  · rintro ⟨z, -⟩; omega
theorem bw_oI_0 (h : bw_oO D i g) : bw_oI D i 0 g := fun b hb d => by
  rw [h b hb d]
  constructor
  · exact Or.inl
  · rintro (z | ⟨-, z, -⟩)
    · exact z
    · omega
theorem bw_oI_t (h : bw_oI D i j g) (hi : i < 40) (hn : ∀ b, bw_m nn b = true ↔ D i b) (c : bw_m nn j = true) : bw_oI D i (j + 1) (vp_updL g j (g j ||| bw_b i)) := fun b hb d => by
  by_cases e : b = j
  · subst e
    rw [pk_uLs, bw_or, Bool.or_eq_true, h b hb d, bw_bit (by omega), decide_eq_true_eq]
    constructor
    · rintro ((z | ⟨-, z, -⟩) | z)
      · exact Or.inl z
      · omega
      · exact Or.inr ⟨z.symm, by omega, (hn b).mp c⟩
    · rintro (z | ⟨z, -, -⟩)
      · exact Or.inl (Or.inl z)
      · exact Or.inr z.symm
  · rw [pk_uLn e, h b hb d]
    constructor
    · rintro (z | ⟨z1, z2, z3⟩)
      · exact Or.inl z
      · exact Or.inr ⟨z1, by omega, z3⟩
    · rintro (z | ⟨z1, z2, z3⟩)
      · exact Or.inl z
      · exact Or.inr ⟨z1, by omega, z3⟩
theorem bw_oI_f (h : bw_oI D i j g) (hn : ∀ b, bw_m nn b = true ↔ D i b) (c : bw_m nn j = false) : bw_oI D i (j + 1) g := fun b hb d => by
  rw [h b hb d]
  constructor
  · rintro (z | ⟨z1, z2, z3⟩)
    · exact Or.inl z
    · exact Or.inr ⟨z1, by omega, z3⟩
  · rintro (z | ⟨z1, z2, z3⟩)
    · exact Or.inl z
    · refine Or.inr ⟨z1, ?_, z3⟩
      have : b ≠ j := fun e => by
        subst e
        rw [(hn b).mpr z3] at c; cases c
      omega
theorem bw_oO_s (h : bw_oI D i j g) (hj : j = 40) : bw_oO D (i + 1) g := fun b hb d => by
  subst hj
  rw [h b hb d]
  constructor
  · rintro (⟨z1, z2⟩ | ⟨z1, z2, z3⟩)
    · exact ⟨by omega, z2⟩
    · subst z1; exact ⟨by omega, z3⟩
  · rintro ⟨z1, z2⟩
    rcases Nat.lt_or_ge d i with q | q
    · exact Or.inl ⟨q, z2⟩
    · have e : d = i := by omega
      subst e; exact Or.inr ⟨rfl, hb, z2⟩
theorem bw_oO_e (h : bw_oO D i g) (hi : i = 40) : bw_ovS D g := fun b hb d => by subst hi; exact h b hb d
theorem bw_nnT {I : Nat → Prop} {E : Nat → Nat → Prop} {re r : Int64} (hre : ∀ i, bw_m re i = true ↔ bw_G I E none i) (c : bw_m re i = true) (hr : ∀ b, bw_m r b = true ↔ bw_G I E (some i) b) : ∀ b, bw_m (re &&& (r ^^^ (-1))) b = true ↔ bw_D I E i b := fun b => by
  unfold bw_D
  rw [bw_dif, Bool.and_eq_true, hre b, ← hr b, ← hre i]
  constructor
  · rintro ⟨z1, z2⟩
    refine ⟨c, z1, fun y => ?_⟩
    rw [y] at z2; cases z2
  · rintro ⟨-, z1, z2⟩
    refine ⟨z1, ?_⟩
    cases hx : bw_m r b with
    | false => rfl
    | true => exact absurd hx z2
theorem bw_nn0 {I : Nat → Prop} {E : Nat → Nat → Prop} {re : Int64} (hre : ∀ i, bw_m re i = true ↔ bw_G I E none i) (c : bw_m re i = false) : ∀ b, bw_m 0 b = true ↔ bw_D I E i b := fun b => by
  rw [bw_0]
  constructor
  · intro z; cases z
  · intro z; rw [(hre i).mpr z.1] at c; cases c
end BWL
abbrev bw_IF (T : Int64) : Nat → Prop := bw_I (bw_b 0) T
abbrev bw_EF (T : Int64) (ms : Nat → Int64) : Nat → Nat → Prop := bw_E ms T
abbrev bw_EB (T : Int64) (ms : Nat → Int64) : Nat → Nat → Prop := bw_E (bw_tr ms) T
/-- what look() finds: steps, reached, good, ends, over, behind, heads, rounds, edges, plain -/
abbrev bw_MS : Type := (Nat → Int64) × Int64 × Int64 × Int64 × (Nat → Int64) × (Nat → Int64) × Int64 × (Nat → Int64) × (Nat → Int64) × Int32
def bw_Mk (T : Int64) (n : Nat → Nat) (t : Nat → Nat → Nat) (ms : Nat → Int64) (re gd en : Int64) (ov be : Nat → Int64) (he : Int64) (rd ed : Nat → Int64) (pl : Int32) : Prop :=
  bw_kS T n t 40 ms ∧ bw_kE T n 40 en ∧ (∀ i, bw_m re i = true ↔ bw_G (bw_IF T) (bw_EF T ms) none i) ∧ (∀ i, bw_m gd i = true ↔ bw_G (bw_I en T) (bw_EB T ms) none i) ∧ bw_ovS (bw_D (bw_IF T) (bw_EF T ms)) ov ∧ bw_ovS (bw_D (bw_I en T) (bw_EB T ms)) be ∧
  bw_rI T re ms ov 40 he rd ∧ bw_edS ms ov ed ∧ ∃ lf, pl = bw_i (decide (lf = 0)) ∧ bw_pA re ms ov lf ∧ bw_pB ms ov lf
/-- told blocks: their targets -/
def bw_nt9 (T : Int64) (mn tg : Nat → Int32) (n : Nat → Nat) (t : Nat → Nat → Nat) : Prop := ∀ b, b < 40 → bw_m T b = true → n b ≤ 4 ∧ mn b = nI (n b) ∧ ∀ j, j < n b → tg (4 * b + j) = nI (t b j) ∧ t b j < 40
theorem bw_nI0 {m : Nat} (h : m < 2 ^ 31) (e : nI m = 0) : m = 0 := (nI_eq h (by decide)).mp (e.trans nI_0.symm)
theorem bw_nI1 {m : Nat} (e : ¬ nI m = 0) : ¬ m = 0 := fun z => e (by rw [z]; rfl)
theorem bw_en_T {T en : Int64} {n : Nat → Nat} {i : Nat} (h : bw_kE T n i en) : ∀ x, bw_m en x = true → bw_m T x = true := fun x hx => ((h x).mp hx).2.1
theorem bw_x40 {T : Int64} {n : Nat → Nat} {t : Nat → Nat → Nat} {i : Nat} {P : Nat → Prop} (h : P i) (hi : i = 40) : P 40 := by rw [← hi]; exact h
