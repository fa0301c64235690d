/-! PURE 6: what ties the class's state to the reference's -/
def bw_Rel (T : Int64) (tc : Nat → Int32) (st sb : Nat → Int64) (mn tg : Nat → Int32) : Prop :=
  bw_40 T ∧ bw_sb st sb ∧ ∃ (n : Nat → Nat) (t : Nat → Nat → Nat), ∀ b, b < 40 → n b ≤ 4 ∧ tc b = nI (n b) ∧ (bw_m T b = true → mn b = nI (n b)) ∧ (bw_m T b = false → n b = 0) ∧ (∀ j, j < n b → tg (4 * b + j) = nI (t b j) ∧ t b j < 40) ∧ ∀ i, bw_m (st b) i = true ↔ ∃ j, j < n b ∧ t b j = i
theorem bw_Rel_0 {mn tg : Nat → Int32} : bw_Rel 0 (fun _ => 0) (fun _ => 0) (fun _ => 0) mn tg := by
  have z : ∀ {i : Nat} {P : Prop}, bw_m 0 i = true → P := fun {i} {P} h => by rw [bw_0] at h; cases h
  refine ⟨fun i h => z h, ⟨fun a b _ _ => by rw [bw_0, bw_0], fun b a _ h => z h, fun b a _ h => z h⟩, fun _ => 0, fun _ _ => 0, fun b _ => ⟨Nat.zero_le 4, rfl, fun h => z h, fun _ => rfl, fun j h => absurd h (Nat.not_lt_zero j), fun i => ?_⟩⟩
  rw [bw_0]
  constructor
  · intro h; cases h
  · rintro ⟨j, h, -⟩; exact absurd h (Nat.not_lt_zero j)
theorem bw_Rel_block {T : Int64} {tc mn tg : Nat → Int32} {st sb : Nat → Int64} {b : Nat} (h : bw_Rel T tc st sb mn tg) (hb : b < 40) (hT : bw_m T b = false) : bw_Rel (T ||| bw_b b) tc st sb (upd mn b 0) tg := by
  obtain ⟨h1, h2, n, t, h3⟩ := h
  have hm : ∀ i, bw_m (T ||| bw_b b) i = (bw_m T i || decide (b = i)) := fun i => by rw [bw_or, bw_bit (by omega)]
  refine ⟨fun i hi => ?_, h2, n, t, fun x hx => ?_⟩
  · rw [hm, Bool.or_eq_true, decide_eq_true_eq] at hi
    rcases hi with hi | hi
    · exact h1 i hi
    · omega
  · obtain ⟨q1, q2, q3, q4, q5, q6⟩ := h3 x hx
    refine ⟨q1, q2, fun hq => ?_, fun hq => ?_, q5, q6⟩
    · by_cases e : x = b
      · subst e
        rw [pk_us, q4 hT]; rfl
      · rw [pk_un e]
        rw [hm, Bool.or_eq_true, decide_eq_true_eq] at hq
        rcases hq with hq | hq
        · exact q3 hq
        · exact absurd hq.symm e
    · rw [hm, Bool.or_eq_false_iff] at hq
      exact q4 hq.1
theorem bw_Rel_target {T : Int64} {tc mn tg : Nat → Int32} {st sb : Nat → Int64} {b to k : Nat} (h : bw_Rel T tc st sb mn tg) (hb : b < 40) (ht : to < 40) (hT : bw_m T b = true) (hk : tc b = nI k) (hk4 : k < 4) :
    bw_Rel T (upd tc b (nI (k + 1))) (vp_updL st b (st b ||| bw_b to)) (vp_updL sb to (sb to ||| bw_b b)) (upd mn b (nI (k + 1))) (upd tg (4 * b + k) (nI to)) := by
  obtain ⟨h1, h2, n, t, h3⟩ := h
  obtain ⟨b1, b2, b3, b4, b5, b6⟩ := h3 b hb
  have hn : n b = k := (nI_eq (by omega) (by omega)).mp (b2.symm.trans hk)
  have hst : ∀ x i, bw_m (vp_updL st b (st b ||| bw_b to) x) i = true ↔ bw_m (st x) i = true ∨ (x = b ∧ to = i) := by
    intro x i
    by_cases e : x = b
    · subst e
      rw [pk_uLs, bw_or, bw_bit (by omega), Bool.or_eq_true, decide_eq_true_eq]; simp
    · rw [pk_uLn e]; simp [e]
  have hsb : ∀ x i, bw_m (vp_updL sb to (sb to ||| bw_b b) x) i = true ↔ bw_m (sb x) i = true ∨ (x = to ∧ b = i) := by
    intro x i
    by_cases e : x = to
    · subst e
      rw [pk_uLs, bw_or, bw_bit (by omega), Bool.or_eq_true, decide_eq_true_eq]; simp
    · rw [pk_uLn e]; simp [e]
  refine ⟨h1, ⟨fun x y hx hy => ?_, fun y x hy hq => ?_, fun x y hx hq => ?_⟩, fun x => if x = b then k + 1 else n x, fun x j => if x = b ∧ j = k then to else t x j, fun x hx => ?_⟩
  · rw [hst, hsb, h2.1 x y hx hy]
    constructor
    · rintro (q | ⟨q1, q2⟩)
      · exact Or.inl q
      · exact Or.inr ⟨q2.symm, q1.symm⟩
    · rintro (q | ⟨q1, q2⟩)
      · exact Or.inl q
      · exact Or.inr ⟨q2.symm, q1.symm⟩
  · rcases (hsb y x).mp hq with q | q
    · exact h2.2.1 y x hy q
    · omega
  · rcases (hst x y).mp hq with q | q
    · exact h2.2.2 x y hx q
    · omega
  · obtain ⟨q1, q2, q3, q4, q5, q6⟩ := h3 x hx
    dsimp only
    by_cases e : x = b
    · subst e
      rw [if_pos rfl]
      refine ⟨by omega, pk_us, fun _ => pk_us, fun hq => (by rw [hT] at hq; cases hq), fun j hj => ?_, fun i => ?_⟩
      · by_cases ej : j = k
        · subst ej
          simp only [true_and, if_true]
          exact ⟨pk_us, ht⟩
        · have := q5 j (by omega)
          rw [if_neg (fun z => ej z.2), pk_un (by omega)]
          exact this
      · rw [hst, q6]
        constructor
        · rintro (⟨j, j1, j2⟩ | ⟨-, j2⟩)
          · exact ⟨j, by omega, by rw [if_neg (fun z => by omega)]; exact j2⟩
          · exact ⟨k, by omega, by rw [if_pos ⟨rfl, rfl⟩]; exact j2⟩
        · rintro ⟨j, j1, j2⟩
          by_cases ej : j = k
          · subst ej
            rw [if_pos ⟨rfl, rfl⟩] at j2
            exact Or.inr ⟨rfl, j2⟩
          · rw [if_neg (fun z => ej z.2)] at j2
            exact Or.inl ⟨j, by omega, j2⟩
    · rw [if_neg e, pk_un e, pk_un e]
      refine ⟨q1, q2, q3, q4, fun j hj => ?_, fun i => ?_⟩
      · rw [if_neg (fun z => e z.1), pk_un (by omega)]
        exact q5 j hj
      · rw [hst, q6]
        constructor
        · rintro (⟨j, j1, j2⟩ | ⟨j1, -⟩)
          · exact ⟨j, j1, by rw [if_neg (fun z => e z.1)]; exact j2⟩
          · exact absurd j1 e
        · rintro ⟨j, j1, j2⟩
          rw [if_neg (fun z => e z.1)] at j2
          exact Or.inl ⟨j, j1, j2⟩
/-- a row with b taken out of all -/
def bw_out (sb : Nat → Int64) (b n : Nat) : Nat → Int64 := fun j => if j < n then sb j &&& (bw_b b ^^^ (-1)) else sb j
theorem bw_Rel_drop {T : Int64} {tc mn tg : Nat → Int32} {st sb : Nat → Int64} {b : Nat} (h : bw_Rel T tc st sb mn tg) (hb : b < 40) :
    bw_Rel (T &&& (bw_b b ^^^ (-1))) (upd tc b 0) (vp_updL st b 0) (bw_out sb b 40) mn tg := by
  obtain ⟨h1, h2, n, t, h3⟩ := h
  have hm : ∀ i, bw_m (T &&& (bw_b b ^^^ (-1))) i = (bw_m T i && !decide (b = i)) := fun i => by rw [bw_dif, bw_bit (by omega)]
  have hst : ∀ x i, bw_m (vp_updL st b 0 x) i = true ↔ bw_m (st x) i = true ∧ x ≠ b := by
    intro x i
    by_cases e : x = b
    · subst e
      rw [pk_uLs, bw_0]; simp
    · rw [pk_uLn e]; simp [e]
  have hsb : ∀ x i, x < 40 → (bw_m (bw_out sb b 40 x) i = true ↔ bw_m (sb x) i = true ∧ b ≠ i) := by
    intro x i hx
    unfold bw_out
    rw [if_pos hx, bw_dif, bw_bit (by omega), Bool.and_eq_true]; simp
  refine ⟨fun i hi => ?_, ⟨fun x y hx hy => ?_, fun y x hy hq => h2.2.1 y x hy ((hsb y x hy).mp hq).1, fun x y hx hq => h2.2.2 x y hx ((hst x y).mp hq).1⟩, fun x => if x = b then 0 else n x, t, fun x hx => ?_⟩
  · rw [hm, Bool.and_eq_true] at hi
    exact h1 i hi.1
  · rw [hst, hsb y x hy, h2.1 x y hx hy]
    exact ⟨fun q => ⟨q.1, fun z => q.2 z.symm⟩, fun q => ⟨q.1, fun z => q.2 z.symm⟩⟩
  · obtain ⟨q1, q2, q3, q4, q5, q6⟩ := h3 x hx
    dsimp only
    by_cases e : x = b
    · subst e
      rw [if_pos rfl]
      refine ⟨by omega, pk_us, fun hq => ?_, fun _ => rfl, fun j hj => by omega, fun i => ?_⟩
      · rw [hm] at hq; simp at hq
      · rw [hst]
        constructor
        · rintro ⟨-, z⟩; exact absurd rfl z
        · rintro ⟨j, j1, -⟩; omega
    · rw [if_neg e, pk_un e]
      refine ⟨q1, q2, fun hq => ?_, fun hq => ?_, q5, fun i => ?_⟩
      · rw [hm, Bool.and_eq_true] at hq; exact q3 hq.1
      · rw [hm] at hq
        refine q4 ?_
        have : ¬ b = x := fun z => e z.symm
        simpa [this] using hq
      · rw [hst, ← q6]
        exact ⟨fun z => z.1, fun z => ⟨z, e⟩⟩
