/-! PURE 2: least closed sets, and what each way must go through -/
theorem bw_dif (x y : Int64) (i : Nat) : bw_m (x &&& (y ^^^ (-1))) i = (bw_m x i && !bw_m y i) := by
  rw [bw_and]
  rcases Nat.lt_or_ge i 64 with z | z
  · rw [bw_not y z]
  · rw [bw_big (x := x) z]; rfl
def bw_L (I : Nat → Prop) (E : Nat → Nat → Prop) (x : Nat) : Prop := ∀ S : Nat → Prop, (∀ i, I i → S i) → (∀ a b, S a → E a b → S b) → S x
theorem bw_L0 {I : Nat → Prop} {E : Nat → Nat → Prop} {x : Nat} (h : I x) : bw_L I E x := fun _ h0 _ => h0 x h
theorem bw_Ls {I : Nat → Prop} {E : Nat → Nat → Prop} {a b : Nat} (h : bw_L I E a) (e : E a b) : bw_L I E b := fun S h0 h1 => h1 a b (h S h0 h1) e
theorem bw_Li {I : Nat → Prop} {E : Nat → Nat → Prop} (S : Nat → Prop) (h0 : ∀ i, I i → S i) (h1 : ∀ a b, bw_L I E a → S a → E a b → S b) {x : Nat} (h : bw_L I E x) : S x :=
  (h (fun z => bw_L I E z ∧ S z) (fun i hi => ⟨bw_L0 hi, h0 i hi⟩) (fun a b ha e => ⟨bw_Ls ha.1 e, h1 a b ha.1 ha.2 e⟩)).2
theorem bw_Lc {I I' : Nat → Prop} {E E' : Nat → Nat → Prop} (h0 : ∀ i, I i → I' i) (h1 : ∀ a b, bw_L I E a → E a b → E' a b) {x : Nat} (h : bw_L I E x) : bw_L I' E' x :=
  bw_Li (fun z => bw_L I' E' z) (fun _ hi => bw_L0 (h0 _ hi)) (fun a b ha hs he => bw_Ls hs (h1 a b ha he)) h
/-- ways that don't go through w -/
def bw_G (I : Nat → Prop) (E : Nat → Nat → Prop) (w : Option Nat) : Nat → Prop := bw_L (fun i => I i ∧ w ≠ some i) (fun a b => E a b ∧ w ≠ some b)
theorem bw_G_up {I : Nat → Prop} {E : Nat → Nat → Prop} {w : Option Nat} {x : Nat} (h : bw_G I E w x) : bw_G I E none x :=
  bw_Lc (fun i hi => ⟨hi.1, by simp⟩) (fun a b _ he => ⟨he.1, by simp⟩) h
theorem bw_G_ne {I : Nat → Prop} {E : Nat → Nat → Prop} {w x : Nat} (h : bw_G I E (some w) x) : w ≠ x :=
  bw_Li (fun z => w ≠ z) (fun _ hi e => hi.2 (by rw [e])) (fun _ _ _ _ he e => he.2 (by rw [e])) h
/-- each way to x goes through d -/
def bw_D (I : Nat → Prop) (E : Nat → Nat → Prop) (d x : Nat) : Prop := bw_G I E none d ∧ bw_G I E none x ∧ ¬ bw_G I E (some d) x
theorem bw_D_self {I : Nat → Prop} {E : Nat → Nat → Prop} {x : Nat} (h : bw_G I E none x) : bw_D I E x x := ⟨h, h, fun z => bw_G_ne z rfl⟩
theorem bw_D_trans {I : Nat → Prop} {E : Nat → Nat → Prop} {x y z : Nat} (h1 : bw_D I E x y) (h2 : bw_D I E y z) : bw_D I E x z := by
  refine ⟨h1.1, h2.2.1, fun h => h2.2.2 ?_⟩
  have key : ∀ {v : Nat}, bw_G I E (some x) v → bw_G I E (some y) v := fun {v} hv =>
    bw_Li (fun v => bw_G I E (some y) v)
      (fun i hi => bw_L0 ⟨hi.1, fun e => h1.2.2 (by cases e; exact bw_L0 hi)⟩)
      (fun a b ha hs he => bw_Ls hs ⟨he.1, fun e => h1.2.2 (by cases e; exact bw_Ls ha he)⟩) hv
  exact key h
theorem bw_D_anti {I : Nat → Prop} {E : Nat → Nat → Prop} {x y : Nat} (h1 : bw_D I E x y) (h2 : bw_D I E y x) : x = y := by
  by_cases hne : x = y
  · exact hne
  exfalso
  have key : ∀ {v : Nat}, bw_G I E none v → (bw_G I E (some x) v ∧ bw_G I E (some y) v) ∨ bw_G I E (some y) x ∨ bw_G I E (some x) y := fun {v} hv => by
    refine bw_Li (fun v => (bw_G I E (some x) v ∧ bw_G I E (some y) v) ∨ bw_G I E (some y) x ∨ bw_G I E (some x) y) ?_ ?_ hv
    · intro i hi
      by_cases e1 : x = i
      · subst e1
        exact Or.inr (Or.inl (bw_L0 ⟨hi.1, fun e => hne (by cases e; rfl)⟩))
      · by_cases e2 : y = i
        · subst e2
          exact Or.inr (Or.inr (bw_L0 ⟨hi.1, fun e => hne (by cases e; rfl)⟩))
        · exact Or.inl ⟨bw_L0 ⟨hi.1, fun e => e1 (by cases e; rfl)⟩, bw_L0 ⟨hi.1, fun e => e2 (by cases e; rfl)⟩⟩
    · intro a b _ hs he
      rcases hs with ⟨s1, s2⟩ | hs
      · by_cases e1 : x = b
        · subst e1
          exact Or.inr (Or.inl (bw_Ls s2 ⟨he.1, fun e => hne (by cases e; rfl)⟩))
        · by_cases e2 : y = b
          · subst e2
            exact Or.inr (Or.inr (bw_Ls s1 ⟨he.1, fun e => hne (by cases e; rfl)⟩))
          · exact Or.inl ⟨bw_Ls s1 ⟨he.1, fun e => e1 (by cases e; rfl)⟩, bw_Ls s2 ⟨he.1, fun e => e2 (by cases e; rfl)⟩⟩
      · exact Or.inr hs
  rcases key h1.1 with ⟨k, -⟩ | k | k
  · exact bw_G_ne k rfl
  · exact h2.2.2 k
  · exact h1.2.2 k
/-! the class's flood -/
def bw_fl (st : Nat → Int64) (al : Int64) : Nat → Int64 → Int64 → Int64
  | 0, f, _ => f
  | n + 1, f, o => if bw_lo o < 40 then bw_fl st al n (f ||| ((st (bw_lo o) &&& al) &&& (f ^^^ (-1)))) ((o &&& (bw_b (bw_lo o) ^^^ (-1))) ||| ((st (bw_lo o) &&& al) &&& (f ^^^ (-1)))) else f
def bw_flood (st : Nat → Int64) (fi al : Int64) : Int64 := bw_fl st al 40 (fi &&& al) (fi &&& al)
theorem bw_fl_end {st : Nat → Int64} {al f : Int64} {I : Nat → Prop} (hL : ∀ i, bw_m f i = true → bw_L I (fun a b => bw_m (st a) b = true ∧ bw_m al b = true) i) (hI : ∀ i, I i → bw_m f i = true)
    (hc : ∀ a b, bw_m f a = true → (bw_m (st a) b = true ∧ bw_m al b = true) → bw_m f b = true) (i : Nat) : bw_m f i = true ↔ bw_L I (fun a b => bw_m (st a) b = true ∧ bw_m al b = true) i :=
  ⟨hL i, fun h => bw_Li (fun z => bw_m f z = true) hI (fun a b _ hs he => hc a b hs he) h⟩
theorem bw_fl_spec {st : Nat → Int64} {al : Int64} {I : Nat → Prop} (h40 : ∀ i, bw_m al i = true → i < 40) : ∀ (n : Nat) (f o : Int64),
    (∀ i, bw_m o i = true → bw_m f i = true) → (∀ i, bw_m f i = true → bw_m al i = true) → (∀ i, bw_m f i = true → bw_L I (fun a b => bw_m (st a) b = true ∧ bw_m al b = true) i) → (∀ i, I i → bw_m f i = true) →
    (∀ a b, bw_m f a = true → bw_m o a = false → (bw_m (st a) b = true ∧ bw_m al b = true) → bw_m f b = true) → 40 ≤ n + bw_c (f &&& (o ^^^ (-1))) 40 →
    ∀ i, bw_m (bw_fl st al n f o) i = true ↔ bw_L I (fun a b => bw_m (st a) b = true ∧ bw_m al b = true) i := by
  intro n
  induction n with
  | zero =>
    intro f o ho hal hL hI hc hn i
    refine bw_fl_end hL hI (fun a b ha he => hc a b ha ?_ he) i
    have h1 := bw_c_full (x := f &&& (o ^^^ (-1))) (n := 40) (by omega) a (h40 a (hal a ha))
    rw [bw_dif] at h1
    simp only [Bool.and_eq_true, Bool.not_eq_true'] at h1
    exact h1.2
  | succ n ih =>
    intro f o ho hal hL hI hc hn i
    unfold bw_fl
    by_cases hb : bw_lo o < 40
    · rw [if_pos hb]
      have hob := (bw_lo_lt (x := o) (by omega)).1
      generalize bw_lo o = b at hb hob ⊢
      have hfb := ho b hob
      have hF : ∀ j, bw_m ((st b &&& al) &&& (f ^^^ (-1))) j = ((bw_m (st b) j && bw_m al j) && !bw_m f j) := fun j => by rw [bw_dif, bw_and]
      generalize (st b &&& al) &&& (f ^^^ (-1)) = F at hF ⊢
      have hO : ∀ j, bw_m ((o &&& (bw_b b ^^^ (-1))) ||| F) j = ((bw_m o j && !decide (b = j)) || bw_m F j) := fun j => by rw [bw_or, bw_dif, bw_bit (by omega)]
      have hf : ∀ j, bw_m (f ||| F) j = (bw_m f j || bw_m F j) := fun j => bw_or f F j
      refine ih (f ||| F) ((o &&& (bw_b b ^^^ (-1))) ||| F) ?_ ?_ ?_ ?_ ?_ ?_ i
      · intro j hj
        rw [hO] at hj; rw [hf]
        simp only [Bool.or_eq_true, Bool.and_eq_true] at hj ⊢
        rcases hj with hj | hj
        · exact Or.inl (ho j hj.1)
        · exact Or.inr hj
      · intro j hj
        rw [hf, hF] at hj
        simp only [Bool.or_eq_true, Bool.and_eq_true] at hj
        rcases hj with hj | hj
        · exact hal j hj
        · exact hj.1.2
      · intro j hj
        rw [hf, hF] at hj
        simp only [Bool.or_eq_true, Bool.and_eq_true] at hj
        rcases hj with hj | hj
        · exact hL j hj
        · exact bw_Ls (hL b hfb) hj.1
      · intro j hj
        rw [hf, hI j hj]; rfl
      · intro a c ha hoa he
        rw [hf] at ha
        rw [hO] at hoa
        simp only [Bool.or_eq_true, Bool.or_eq_false_iff] at ha hoa
        rw [hf]
        have ha : bw_m f a = true := by
          rcases ha with ha | ha
          · exact ha
          · rw [hoa.2] at ha; cases ha
        by_cases e : b = a
        · subst e
          rw [hF, he.1, he.2]
          cases bw_m f c <;> rfl
        · have h1 : bw_m o a = false := by
            have := hoa.1
            simpa [e] using this
          rw [hc a c ha h1 he]; rfl
      · have h1 : bw_c (f &&& (o ^^^ (-1))) 40 < bw_c ((f ||| F) &&& (((o &&& (bw_b b ^^^ (-1))) ||| F) ^^^ (-1))) 40 := by
          refine bw_c_lt (fun j _ hj => ?_) ⟨b, hb, ?_, ?_⟩
          · rw [bw_dif] at hj ⊢
            rw [hf, hO, hF]
            simp only [Bool.and_eq_true, Bool.not_eq_true'] at hj
            rw [hj.1, hj.2]; simp
          · rw [bw_dif, hob]; simp
          · rw [bw_dif, hf, hO, hF, hfb, hob]; simp
        omega
    · rw [if_neg hb]
      refine bw_fl_end hL hI (fun a b ha he => hc a b ha ?_ he) i
      exact bw_lo_ge hb a (h40 a (hal a ha))
theorem bw_flood_spec {st : Nat → Int64} {fi al : Int64} (h40 : ∀ i, bw_m al i = true → i < 40) (i : Nat) :
    bw_m (bw_flood st fi al) i = true ↔ bw_L (fun i => bw_m fi i = true ∧ bw_m al i = true) (fun a b => bw_m (st a) b = true ∧ bw_m al b = true) i := by
  have hx : ∀ j, bw_m (fi &&& al) j = (bw_m fi j && bw_m al j) := bw_and fi al
  refine bw_fl_spec h40 40 _ _ (fun j h => h) (fun j h => ?_) (fun j h => bw_L0 ?_) (fun j h => ?_) (fun a b h1 h2 => ?_) (by omega) i
  · rw [hx, Bool.and_eq_true] at h; exact h.2
  · rw [hx, Bool.and_eq_true] at h; exact h
  · rw [hx, Bool.and_eq_true]; exact h
  · rw [h1] at h2; cases h2
/-- the ways of a Spread: from the first blocks, over those told -/
def bw_I (fi T : Int64) (i : Nat) : Prop := bw_m fi i = true ∧ bw_m T i = true
def bw_E (st : Nat → Int64) (T : Int64) (a b : Nat) : Prop := bw_m (st a) b = true ∧ bw_m T b = true
theorem bw_cov {st : Nat → Int64} {fi T : Int64} (h40 : ∀ i, bw_m T i = true → i < 40) (i : Nat) : bw_m (bw_flood st fi T) i = true ↔ bw_G (bw_I fi T) (bw_E st T) none i := by
  rw [bw_flood_spec h40]
  exact ⟨fun h => bw_Lc (fun j hj => ⟨hj, by simp⟩) (fun a b _ he => ⟨he, by simp⟩) h, fun h => bw_Lc (fun j hj => hj.1) (fun a b _ he => he.1) h⟩
theorem bw_G_T {st : Nat → Int64} {fi T : Int64} {w : Option Nat} {i : Nat} (h : bw_G (bw_I fi T) (bw_E st T) w i) : bw_m T i = true :=
  bw_Li (fun z => bw_m T z = true) (fun _ hi => hi.1.2) (fun _ _ _ _ he => he.1.2) h
/-- Spread.gated -/
def bw_gt (st : Nat → Int64) (fi c : Int64) (d : Nat) : Int64 := if bw_m c d = true then c &&& (bw_flood st fi (c &&& (bw_b d ^^^ (-1))) ^^^ (-1)) else 0
theorem bw_gt_spec {st : Nat → Int64} {fi T : Int64} (h40 : ∀ i, bw_m T i = true → i < 40) {d : Nat} (hd : d < 40) (i : Nat) :
    bw_m (bw_gt st fi (bw_flood st fi T) d) i = true ↔ bw_D (bw_I fi T) (bw_E st T) d i := by
  have hc : ∀ i, bw_m (bw_flood st fi T) i = true ↔ bw_G (bw_I fi T) (bw_E st T) none i := bw_cov h40
  unfold bw_gt
  generalize bw_flood st fi T = c at hc ⊢
  by_cases h : bw_m c d = true
  · rw [if_pos h, bw_dif, Bool.and_eq_true]
    have ha : ∀ j, bw_m (c &&& (bw_b d ^^^ (-1))) j = true ↔ bw_G (bw_I fi T) (bw_E st T) none j ∧ d ≠ j := fun j => by
      rw [bw_dif, bw_bit (by omega), Bool.and_eq_true, hc]; simp
    have h2 : bw_m (bw_flood st fi (c &&& (bw_b d ^^^ (-1)))) i = true ↔ bw_G (bw_I fi T) (bw_E st T) (some d) i := by
      rw [bw_flood_spec (fun j hj => h40 j (bw_G_T ((ha j).mp hj).1))]
      constructor
      · refine bw_Lc (fun j hj => ?_) (fun a b _ he => ?_)
        · have := (ha j).mp hj.2
          exact ⟨⟨hj.1, bw_G_T this.1⟩, fun e => this.2 (Option.some.inj e)⟩
        · have := (ha b).mp he.2
          exact ⟨⟨he.1, bw_G_T this.1⟩, fun e => this.2 (Option.some.inj e)⟩
      · refine bw_Lc (fun j hj => ⟨hj.1.1, (ha j).mpr ⟨bw_L0 ⟨hj.1, by simp⟩, fun e => hj.2 (by rw [e])⟩⟩) (fun a b hl he => ⟨he.1.1, (ha b).mpr ⟨bw_Ls (bw_G_up hl) ⟨he.1, by simp⟩, fun e => he.2 (by rw [e])⟩⟩)
    unfold bw_D
    rw [← hc d, ← hc i]
    constructor
    · rintro ⟨q1, q2⟩
      refine ⟨h, q1, fun z => ?_⟩
      rw [h2.mpr z] at q2; cases q2
    · rintro ⟨-, q1, q2⟩
      refine ⟨q1, ?_⟩
      cases hx : bw_m (bw_flood st fi (c &&& (bw_b d ^^^ (-1)))) i with
      | false => rfl
      | true => exact absurd (h2.mp hx) q2
  · rw [if_neg h, bw_0]
    constructor
    · intro z; cases z
    · intro z; exact absurd ((hc d).mpr z.1) h
/-! the reference's rounds to a fixed point -/
theorem bw_fix {nx : Int64 → Int64} {s0 r : Int64} {I : Nat → Prop} {E : Nat → Nat → Prop} (J : Int64 → Prop) (hr : ∀ P : Int64 → Prop, P s0 → (∀ s, P s → P (nx s)) → P r) (hf : nx r = r)
    (hJ0 : J s0) (hJ : ∀ s, J s → J (nx s)) (h0 : ∀ i, bw_m s0 i = true ↔ I i) (hs : ∀ s i, J s → (bw_m (nx s) i = true ↔ (bw_m s i = true ∨ ∃ a, bw_m s a = true ∧ E a i))) (i : Nat) : bw_m r i = true ↔ bw_L I E i := by
  have k1 : J r ∧ (∀ i, bw_m r i = true → bw_L I E i) ∧ ∀ i, I i → bw_m r i = true := by
    refine hr (fun x => J x ∧ (∀ i, bw_m x i = true → bw_L I E i) ∧ ∀ i, I i → bw_m x i = true) ⟨hJ0, fun i h => bw_L0 ((h0 i).mp h), fun i h => (h0 i).mpr h⟩ (fun s hs9 => ?_)
    refine ⟨hJ s hs9.1, fun i h => ?_, fun i h => (hs s i hs9.1).mpr (Or.inl (hs9.2.2 i h))⟩
    rcases (hs s i hs9.1).mp h with h | ⟨a, h1, h2⟩
    · exact hs9.2.1 i h
    · exact bw_Ls (hs9.2.1 a h1) h2
  refine ⟨k1.2.1 i, fun h => bw_Li (fun z => bw_m r z = true) k1.2.2 (fun a b _ hs9 he => ?_) h⟩
  rw [← hf]
  exact (hs r b k1.1).mpr (Or.inr ⟨a, hs9, he⟩)
