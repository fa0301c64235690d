/-! the reference's tables: what its loops have done so far -/
def bw_hc (ms be : Nat → Int64) (gd : Int64) (k a : Nat) : Prop := bw_m gd a = true ∧ ¬ (bw_m (be a) k = true ∧ a ≠ k) ∧ ∃ t, t < 40 ∧ bw_m (ms a) t = true ∧ bw_m (be t) k = true
def bw_hO (ms be : Nat → Int64) (gd : Int64) (k i : Nat) (acc : Int64) : Prop := ∀ a, bw_m acc a = true ↔ a < i ∧ bw_hc ms be gd k a
def bw_hI (ms be : Nat → Int64) (k i j : Nat) (acc ac2 : Int64) : Prop := ∀ a, bw_m ac2 a = true ↔ bw_m acc a = true ∨ (a = i ∧ ∃ t, t < j ∧ bw_m (ms i) t = true ∧ bw_m (be t) k = true)
section BWG
variable {ms be ov : Nat → Int64} {gd re : Int64} {k i j : Nat} {acc ac2 : Int64}
theorem bw_hO_0 : bw_hO ms be gd k 0 0 := fun a => by
  rw [bw_0]
  constructor
  · intro h; cases h
  · rintro ⟨h, -⟩; omega
theorem bw_lt_s {P : Nat → Prop} {i a : Nat} (h : ¬ P i) : (a < i ∧ P a) ↔ (a < i + 1 ∧ P a) := by
  constructor
  · rintro ⟨h1, h2⟩; exact ⟨by omega, h2⟩
  · rintro ⟨h1, h2⟩
    refine ⟨?_, h2⟩
    have : a ≠ i := fun e => h (by rw [← e]; exact h2)
    omega
theorem bw_hO_1 (h : bw_hO ms be gd k i acc) (c : bw_m gd i = false) : bw_hO ms be gd k (i + 1) acc := fun a => (h a).trans (bw_lt_s fun z => by rw [z.1] at c; cases c)
theorem bw_hO_2 (h : bw_hO ms be gd k i acc) (c1 : bw_m (be i) k = true) (c2 : ¬ i = k) : bw_hO ms be gd k (i + 1) acc := fun a => (h a).trans (bw_lt_s fun z => z.2.1 ⟨c1, c2⟩)
theorem bw_hI_0 : bw_hI ms be k i 0 acc acc := fun a => by
  constructor
  · exact Or.inl
  · rintro (h | ⟨-, t, h, -⟩)
    · exact h
    · omega
theorem bw_hI_t (hi : i < 40) (h : bw_hI ms be k i j acc ac2) (c1 : bw_m (ms i) j = true) (c2 : bw_m (be j) k = true) : bw_hI ms be k i (j + 1) acc (ac2 ||| bw_b i) := fun a => by
  rw [bw_or, Bool.or_eq_true, h a, bw_bit (by omega), decide_eq_true_eq]
  constructor
  · rintro ((h | ⟨e, t, t1, t2⟩) | e)
    · exact Or.inl h
    · exact Or.inr ⟨e, t, by omega, t2⟩
    · exact Or.inr ⟨e.symm, j, by omega, c1, c2⟩
  · rintro (h | ⟨e, t, t1, t2⟩)
    · exact Or.inl (Or.inl h)
    · exact Or.inr e.symm
theorem bw_hI_f (h : bw_hI ms be k i j acc ac2) (c : bw_m (ms i) j = false ∨ bw_m (be j) k = false) : bw_hI ms be k i (j + 1) acc ac2 := fun a => by
  rw [h a]
  constructor
  · rintro (h | ⟨e, t, t1, t2⟩)
    · exact Or.inl h
    · exact Or.inr ⟨e, t, by omega, t2⟩
  · rintro (h | ⟨e, t, t1, t2⟩)
    · exact Or.inl h
    · refine Or.inr ⟨e, t, ?_, t2⟩
      have : t ≠ j := fun z => by
        subst z
        rcases c with c | c
        · rw [t2.1] at c; cases c
        · rw [t2.2] at c; cases c
      omega
theorem bw_hO_s (h : bw_hO ms be gd k i acc) (h2 : bw_hI ms be k i j acc ac2) (hj : j = 40) (g : bw_m gd i = true) (nb : bw_m (be i) k = false ∨ i = k) : bw_hO ms be gd k (i + 1) ac2 := fun a => by
  subst hj
  rw [h2 a, h a]
  have hb : ¬ (bw_m (be i) k = true ∧ i ≠ k) := fun z => by
    rcases nb with nb | nb
    · rw [z.1] at nb; cases nb
    · exact z.2 nb
  constructor
  · rintro (⟨q1, q2⟩ | ⟨e, q⟩)
    · exact ⟨by omega, q2⟩
    · subst e; exact ⟨by omega, g, hb, q⟩
  · rintro ⟨q1, q2⟩
    rcases Nat.lt_or_ge a i with z | z
    · exact Or.inl ⟨z, q2⟩
    · have e : a = i := by omega
      subst e; exact Or.inr ⟨rfl, q2.2.2⟩
theorem bw_hO_e (h : bw_hO ms be gd k i acc) (hi : i = 40) : bw_haS ms be gd k acc := fun a => by subst hi; exact h a
/-! edges -/
def bw_eP (ms ov : Nat → Int64) (b y x : Nat) : Prop := bw_m (ov y) b = true ∧ bw_m (ms y) x = true ∧ (bw_m (ov x) b = false ∨ x = b)
def bw_eO (ms ov : Nat → Int64) (i : Nat) (g : Nat → Int64) : Prop := ∀ b, b < i → ∀ x, bw_m (g b) x = true ↔ ∃ y, y < 40 ∧ x < 40 ∧ bw_eP ms ov b y x
def bw_eM (ms ov : Nat → Int64) (i j : Nat) (g : Nat → Int64) : Prop := bw_eO ms ov i g ∧ ∀ x, bw_m (g i) x = true ↔ ∃ y, y < j ∧ x < 40 ∧ bw_eP ms ov i y x
def bw_eI (ms ov : Nat → Int64) (i j l : Nat) (g : Nat → Int64) : Prop := bw_eO ms ov i g ∧ ∀ x, bw_m (g i) x = true ↔ (∃ y, y < j ∧ x < 40 ∧ bw_eP ms ov i y x) ∨ (x < l ∧ bw_eP ms ov i j x)
theorem bw_eO_0 {g : Nat → Int64} : bw_eO ms ov 0 g := fun b hb => by omega
theorem bw_eO_u {g : Nat → Int64} {v : Int64} (h : bw_eO ms ov i g) : bw_eO ms ov i (vp_updL g i v) := fun b hb x => by rw [pk_uLn (by omega)]; exact h b hb x
theorem bw_eM_0 {g : Nat → Int64} (h : bw_eO ms ov i g) : bw_eM ms ov i 0 (vp_updL g i 0) := ⟨bw_eO_u h, fun x => by
  rw [pk_uLs, bw_0]
  constructor
  · intro z; cases z
  · rintro ⟨y, z, -⟩; omega⟩
theorem bw_eI_0 {g : Nat → Int64} (h : bw_eM ms ov i j g) : bw_eI ms ov i j 0 g := ⟨h.1, fun x => by
  rw [h.2 x]
  constructor
  · exact Or.inl
  · rintro (z | ⟨z, -⟩)
    · exact z
    · omega⟩
theorem bw_eI_t {g : Nat → Int64} {l : Nat} (hl : l < 40) (h : bw_eI ms ov i j l g) (c1 : bw_m (ov j) i = true) (c2 : bw_m (ms j) l = true) (c3 : bw_m (ov l) i = false ∨ l = i) : bw_eI ms ov i j (l + 1) (vp_updL g i (g i ||| bw_b l)) := ⟨bw_eO_u h.1, fun x => by
  rw [pk_uLs, bw_or, Bool.or_eq_true, h.2 x, bw_bit (by omega), decide_eq_true_eq]
  constructor
  · rintro ((z | ⟨z1, z2⟩) | z)
    · exact Or.inl z
    · exact Or.inr ⟨by omega, z2⟩
    · subst z; exact Or.inr ⟨by omega, c1, c2, c3⟩
  · rintro (z | ⟨z1, z2⟩)
    · exact Or.inl (Or.inl z)
    · rcases Nat.lt_or_ge x l with q | q
      · exact Or.inl (Or.inr ⟨q, z2⟩)
      · exact Or.inr (by omega)⟩
theorem bw_eI_f {g : Nat → Int64} {l : Nat} (h : bw_eI ms ov i j l g) (c : bw_m (ms j) l = false ∨ (bw_m (ov l) i = true ∧ ¬ l = i)) : bw_eI ms ov i j (l + 1) g := ⟨h.1, fun x => by
  rw [h.2 x]
  have hn : ¬ bw_eP ms ov i j l := fun z => by
    rcases c with c | ⟨c, d⟩
    · rw [z.2.1] at c; cases c
    · rcases z.2.2 with q | q
      · rw [c] at q; cases q
      · exact d q
  rw [bw_lt_s (P := fun x => bw_eP ms ov i j x) hn]⟩
theorem bw_eM_1 {g : Nat → Int64} {l : Nat} (h : bw_eI ms ov i j l g) (hl : l = 40) : bw_eM ms ov i (j + 1) g := ⟨h.1, fun x => by
  subst hl
  rw [h.2 x]
  constructor
  · rintro (⟨y, z1, z2⟩ | ⟨z1, z2⟩)
    · exact ⟨y, by omega, z2⟩
    · exact ⟨j, by omega, z1, z2⟩
  · rintro ⟨y, z1, z2⟩
    rcases Nat.lt_or_ge y j with q | q
    · exact Or.inl ⟨y, q, z2⟩
    · have e : y = j := by omega
      subst e; exact Or.inr z2⟩
theorem bw_eM_2 {g : Nat → Int64} {l : Nat} (h : bw_eI ms ov i j l g) (c : bw_m (ov j) i = false) : bw_eM ms ov i (j + 1) g := ⟨h.1, fun x => by
  rw [h.2 x]
  constructor
  · rintro (⟨y, z1, z2⟩ | ⟨z1, z2⟩)
    · exact ⟨y, by omega, z2⟩
    · rw [z2.1] at c; cases c
  · rintro ⟨y, z1, z2⟩
    rcases Nat.lt_or_ge y j with q | q
    · exact Or.inl ⟨y, q, z2⟩
    · have e : y = j := by omega
      subst e; rw [z2.2.1] at c; cases c⟩
theorem bw_eO_s {g : Nat → Int64} (h : bw_eM ms ov i j g) (hj : j = 40) : bw_eO ms ov (i + 1) g := fun b hb x => by
  subst hj
  rcases Nat.lt_or_ge b i with q | q
  · exact h.1 b q x
  · have e : b = i := by omega
    subst e; exact h.2 x
theorem bw_eO_e {g : Nat → Int64} (h : bw_eO ms ov i g) (hi : i = 40) : bw_edS ms ov g := fun b hb x => by
  subst hi
  rw [h b hb x]
  constructor
  · rintro ⟨y, z1, z2, z3, z4, z5⟩; exact ⟨y, z1, z3, z2, z4, z5⟩
  · rintro ⟨y, z1, z3, z2, z4, z5⟩; exact ⟨y, z1, z2, z3, z4, z5⟩
/-! rounds -/
def bw_rd (T re : Int64) (ms ov : Nat → Int64) (h : Nat) (v : Int64) : Prop := (bw_bk re ms ov h = 0 ∧ v = 0) ∨ (¬ bw_bk re ms ov h = 0 ∧ ∃ r, bw_Lp (bw_ln T ms (bw_nt (some h))) (bw_bk re ms ov h &&& (bw_nt (some h) ^^^ (-1))) r ∧ v = bw_b h ||| (r &&& re))
def bw_rI (T re : Int64) (ms ov : Nat → Int64) (i : Nat) (he : Int64) (g : Nat → Int64) : Prop := (∀ h, bw_m he h = true ↔ h < i ∧ ¬ bw_bk re ms ov h = 0) ∧ (∀ h, h < i → bw_rd T re ms ov h (g h)) ∧ ∀ h, i ≤ h → h < 40 → g h = 0
variable {T : Int64}
theorem bw_rI_0 {g : Nat → Int64} (hz : ∀ h, h < 40 → g h = 0) : bw_rI T re ms ov 0 0 g := ⟨fun h => by
  rw [bw_0]
  constructor
  · intro z; cases z
  · rintro ⟨z, -⟩; omega, fun h z => by omega, fun h _ z => hz h z⟩
theorem bw_rI_z {g : Nat → Int64} {he bk : Int64} (h : bw_rI T re ms ov i he g) (hi : i < 40) (e : bk = bw_bk re ms ov i) (c : bk = 0) : bw_rI T re ms ov (i + 1) he g := by
  rw [e] at c
  refine ⟨fun q => (h.1 q).trans (bw_lt_s (P := fun q => ¬ bw_bk re ms ov q = 0) fun z => z c), fun q hq => ?_, fun q h1 h2 => h.2.2 q (by omega) h2⟩
  rcases Nat.lt_or_ge q i with z | z
  · exact h.2.1 q z
  · have e : q = i := by omega
    subst e
    exact Or.inl ⟨c, h.2.2 q (Nat.le_refl q) hi⟩
theorem bw_rI_s {g : Nat → Int64} {he bk r : Int64} (h : bw_rI T re ms ov i he g) (hi : i < 40) (e : bk = bw_bk re ms ov i) (c : ¬ bk = 0) (hr : bw_Lp (bw_ln T ms (bw_nt (some i))) (bk &&& (bw_nt (some i) ^^^ (-1))) r) : bw_rI T re ms ov (i + 1) (he ||| bw_b i) (vp_updL g i (bw_b i ||| (r &&& re))) := by
  rw [e] at c hr
  refine ⟨fun q => ?_, fun q hq => ?_, fun q h1 h2 => ?_⟩
  · rw [bw_or, Bool.or_eq_true, h.1 q, bw_bit (by omega), decide_eq_true_eq]
    constructor
    · rintro (⟨z1, z2⟩ | z)
      · exact ⟨by omega, z2⟩
      · subst z; exact ⟨by omega, c⟩
    · rintro ⟨z1, z2⟩
      rcases Nat.lt_or_ge q i with z | z
      · exact Or.inl ⟨z, z2⟩
      · exact Or.inr (by omega)
  · rcases Nat.lt_or_ge q i with z | z
    · rw [pk_uLn (by omega)]; exact h.2.1 q z
    · have e : q = i := by omega
      subst e
      rw [pk_uLs]
      exact Or.inr ⟨c, r, hr, rfl⟩
  · rw [pk_uLn (by omega)]; exact h.2.2 q (by omega) h2
/-! plain -/
def bw_dst (ms ov : Nat → Int64) (c : Nat) : Int64 := ms c &&& (ov c ^^^ (-1))
def bw_pA (re : Int64) (ms ov : Nat → Int64) (lf : Int64) : Prop := (∀ i, bw_m lf i = true → bw_m re i = true) ∧ ∀ C : Int64, (∀ i, bw_m C i = true → bw_m re i = true) → (∀ c, bw_m C c = true → ∃ a, bw_m C a = true ∧ bw_m (bw_dst ms ov c) a = true) → ∀ i, bw_m C i = true → bw_m lf i = true
def bw_pB (ms ov : Nat → Int64) (lf : Int64) : Prop := ∀ c, bw_m lf c = true → ∃ a, bw_m lf a = true ∧ bw_m (bw_dst ms ov c) a = true
theorem bw_pA_0 : bw_pA re ms ov re := ⟨fun _ h => h, fun _ h _ => h⟩
theorem bw_dm {lg : Int64} (a : Nat) : bw_m ((ms i &&& lg) &&& (ov i ^^^ (-1))) a = true ↔ bw_m lg a = true ∧ bw_m (bw_dst ms ov i) a = true := by
  unfold bw_dst
  rw [bw_dif, bw_dif, bw_and]
  cases bw_m (ms i) a <;> cases bw_m lg a <;> cases bw_m (ov i) a <;> simp
theorem bw_pA_s {lg : Int64} (h : bw_pA re ms ov lg) (hi : i < 40) (c : ((ms i &&& lg) &&& (ov i ^^^ (-1))) = 0) : bw_pA re ms ov (lg &&& (bw_b i ^^^ (-1))) := by
  have hm : ∀ a, bw_m (lg &&& (bw_b i ^^^ (-1))) a = true ↔ bw_m lg a = true ∧ i ≠ a := fun a => by rw [bw_dif, bw_bit (by omega), Bool.and_eq_true]; simp
  refine ⟨fun a ha => h.1 a ((hm a).mp ha).1, fun C c1 c2 a ha => (hm a).mpr ⟨h.2 C c1 c2 a ha, fun e => ?_⟩⟩
  subst e
  obtain ⟨b, b1, b2⟩ := c2 i ha
  have := (bw_dm (ms := ms) (ov := ov) (i := i) (lg := lg) b).mpr ⟨h.2 C c1 c2 b b1, b2⟩
  rw [c, bw_0] at this; cases this
def bw_pM (ms ov : Nat → Int64) (lf : Int64) (mo : Int32) (n : Nat) : Prop := (mo = 1 ∧ bw_c lf 64 + 1 < n) ∨ (mo = 0 ∧ 0 < n ∧ bw_pB ms ov lf)
def bw_pI (ms ov : Nat → Int64) (lf lg : Int64) (mo : Int32) (i : Nat) : Prop := (mo = 0 ∧ lg = lf ∧ ∀ b, b < i → bw_m lf b = true → ¬ ((ms b &&& lf) &&& (ov b ^^^ (-1))) = 0) ∨ (mo = 1 ∧ bw_c lg 64 < bw_c lf 64)
theorem bw_pM_z {lf : Int64} {mo : Int32} (h : bw_pM ms ov lf mo 0) : False := by rcases h with ⟨-, h⟩ | ⟨-, h, -⟩ <;> omega
theorem bw_pM_0 {lf : Int64} : bw_pM ms ov lf 1 67 := Or.inl ⟨rfl, by have := bw_c_le lf 64; omega⟩
theorem bw_pM_x {lf : Int64} {mo : Int32} {n : Nat} (h : bw_pM ms ov lf mo n) (c : mo = 0) : bw_pB ms ov lf := by
  rcases h with ⟨h, -⟩ | ⟨-, -, h⟩
  · rw [c] at h; exact absurd h (by decide)
  · exact h
theorem bw_pI_0 {lf : Int64} : bw_pI ms ov lf lf 0 0 := Or.inl ⟨rfl, rfl, fun b hb => by omega⟩
theorem bw_pI_1 {lf lg : Int64} {mo : Int32} (h : bw_pI ms ov lf lg mo i) (c : bw_m lg i = false) : bw_pI ms ov lf lg mo (i + 1) := by
  rcases h with ⟨h1, h2, h3⟩ | h
  · refine Or.inl ⟨h1, h2, fun b hb hm => ?_⟩
    rcases Nat.lt_or_ge b i with z | z
    · exact h3 b z hm
    · have e : b = i := by omega
      subst e; rw [← h2, c] at hm; cases hm
  · exact Or.inr h
theorem bw_pI_2 {lf lg : Int64} {mo : Int32} (h : bw_pI ms ov lf lg mo i) (c : ¬ ((ms i &&& lg) &&& (ov i ^^^ (-1))) = 0) : bw_pI ms ov lf lg mo (i + 1) := by
  rcases h with ⟨h1, h2, h3⟩ | h
  · refine Or.inl ⟨h1, h2, fun b hb hm => ?_⟩
    rcases Nat.lt_or_ge b i with z | z
    · exact h3 b z hm
    · have e : b = i := by omega
      subst e; rw [← h2]; exact c
  · exact Or.inr h
theorem bw_pI_3 {lf lg : Int64} {mo : Int32} (hi : i < 40) (h : bw_pI ms ov lf lg mo i) (c : bw_m lg i = true) : bw_pI ms ov lf (lg &&& (bw_b i ^^^ (-1))) 1 (i + 1) := by
  refine Or.inr ⟨rfl, ?_⟩
  have hm : ∀ a, bw_m (lg &&& (bw_b i ^^^ (-1))) a = true ↔ bw_m lg a = true ∧ i ≠ a := fun a => by rw [bw_dif, bw_bit (by omega), Bool.and_eq_true]; simp
  have h1 : bw_c (lg &&& (bw_b i ^^^ (-1))) 64 < bw_c lg 64 := bw_c_lt (fun a _ ha => ((hm a).mp ha).1) ⟨i, by omega, by
    cases hx : bw_m (lg &&& (bw_b i ^^^ (-1))) i with
    | false => rfl
    | true => exact absurd rfl ((hm i).mp hx).2, c⟩
  rcases h with ⟨-, h2, -⟩ | ⟨-, h2⟩
  · rw [← h2]; exact h1
  · omega
theorem bw_pM_s {lf lg : Int64} {mo mo2 : Int32} {n : Nat} (hA : bw_pA re ms ov lf) (hre : ∀ i, bw_m re i = true → i < 40) (h : bw_pM ms ov lf mo (n + 1)) (c : ¬ mo = 0) (h2 : bw_pI ms ov lf lg mo2 i) (hi : i = 40) : bw_pM ms ov lg mo2 n := by
  subst hi
  rcases h with ⟨-, h⟩ | ⟨h, -⟩
  · rcases h2 with ⟨e1, e2, e3⟩ | ⟨e1, e2⟩
    · subst e2
      refine Or.inr ⟨e1, by omega, fun c hc => ?_⟩
      obtain ⟨a, -, ha⟩ := bw_nz (e3 c (hre c (hA.1 c hc)) hc)
      exact ⟨a, (bw_dm a).mp ha⟩
    · exact Or.inl ⟨e1, by omega⟩
  · exact absurd h c
end BWG
