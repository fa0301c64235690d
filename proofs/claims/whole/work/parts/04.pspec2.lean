/-! PURE 5: joins, circles, the smallest round -/
/-- the class's joins -/
def bw_jn (rim : Nat → Int64) : Nat → Int64 → Int64 → Int64 → Int64
  | 0, j, _, _ => j
  | n + 1, j, f, o => if bw_lo o < 40 then bw_jn rim n (j ||| rim (bw_lo o)) (f ||| rim (bw_lo o)) ((o &&& (bw_b (bw_lo o) ^^^ (-1))) ||| (rim (bw_lo o) &&& (f ^^^ (-1)))) else j
def bw_joins (rim : Nat → Int64) (cv bs : Int64) : Int64 := bw_jn rim 40 0 (bs &&& cv) (bs &&& cv)
theorem bw_jn_end {rim : Nat → Int64} {j f : Int64} {I : Nat → Prop} (hL : ∀ i, bw_m f i = true → bw_L I (fun a b => bw_m (rim a) b = true) i) (hI : ∀ i, I i → bw_m f i = true)
    (hj : ∀ i, bw_m j i = true → ∃ a, bw_m f a = true ∧ bw_m (rim a) i = true) (hjf : ∀ i, bw_m j i = true → bw_m f i = true)
    (hc : ∀ a b, bw_m f a = true → bw_m (rim a) b = true → bw_m j b = true) (i : Nat) : bw_m j i = true ↔ ∃ a, bw_L I (fun a b => bw_m (rim a) b = true) a ∧ bw_m (rim a) i = true := by
  constructor
  · intro h
    obtain ⟨a, h1, h2⟩ := hj i h
    exact ⟨a, hL a h1, h2⟩
  · rintro ⟨a, h1, h2⟩
    exact hc a i (bw_Li (fun z => bw_m f z = true) hI (fun a b _ hs he => hjf b (hc a b hs he)) h1) h2
theorem bw_jn_spec {rim : Nat → Int64} {I : Nat → Prop} (h40 : ∀ a, a < 40 → ∀ i, bw_m (rim a) i = true → i < 40) : ∀ (n : Nat) (j f o : Int64),
    (∀ i, bw_m o i = true → bw_m f i = true) → (∀ i, bw_m f i = true → i < 40) → (∀ i, bw_m f i = true → bw_L I (fun a b => bw_m (rim a) b = true) i) → (∀ i, I i → bw_m f i = true) →
    (∀ i, bw_m j i = true → ∃ a, bw_m f a = true ∧ bw_m (rim a) i = true) → (∀ i, bw_m j i = true → bw_m f i = true) →
    (∀ a b, bw_m f a = true → bw_m o a = false → bw_m (rim a) b = true → bw_m j b = true) → 40 ≤ n + bw_c (f &&& (o ^^^ (-1))) 40 →
    ∀ i, bw_m (bw_jn rim n j f o) i = true ↔ ∃ a, bw_L I (fun a b => bw_m (rim a) b = true) a ∧ bw_m (rim a) i = true := by
  intro n
  induction n with
  | zero =>
    intro j f o ho hal hL hI hj hjf hc hn i
    refine bw_jn_end hL hI hj hjf (fun a b ha he => hc a b ha ?_ he) i
    have h1 := bw_c_full (x := f &&& (o ^^^ (-1))) (n := 40) (by omega) a (hal a ha)
    rw [bw_dif] at h1
    simp only [Bool.and_eq_true, Bool.not_eq_true'] at h1
    exact h1.2
  | succ n ih =>
    intro j f o ho hal hL hI hj hjf hc hn i
    unfold bw_jn
    by_cases hb : bw_lo o < 40
    · rw [if_pos hb]
      have hob := (bw_lo_lt (x := o) (by omega)).1
      generalize bw_lo o = b at hb hob ⊢
      have hfb := ho b hob
      have hO : ∀ k, bw_m ((o &&& (bw_b b ^^^ (-1))) ||| (rim b &&& (f ^^^ (-1)))) k = ((bw_m o k && !decide (b = k)) || (bw_m (rim b) k && !bw_m f k)) := fun k => by rw [bw_or, bw_dif, bw_dif, bw_bit (by omega)]
      have hf : ∀ k, bw_m (f ||| rim b) k = (bw_m f k || bw_m (rim b) k) := fun k => bw_or f _ k
      have hJ : ∀ k, bw_m (j ||| rim b) k = (bw_m j k || bw_m (rim b) k) := fun k => bw_or j _ k
      refine ih (j ||| rim b) (f ||| rim b) ((o &&& (bw_b b ^^^ (-1))) ||| (rim b &&& (f ^^^ (-1)))) ?_ ?_ ?_ ?_ ?_ ?_ ?_ ?_ i
      · intro k hk
        rw [hO] at hk; rw [hf]
        simp only [Bool.or_eq_true, Bool.and_eq_true] at hk ⊢
        rcases hk with hk | hk
        · exact Or.inl (ho k hk.1)
        · exact Or.inr hk.1
      · intro k hk
        rw [hf, Bool.or_eq_true] at hk
        rcases hk with hk | hk
        · exact hal k hk
        · exact h40 b hb k hk
      · intro k hk
        rw [hf, Bool.or_eq_true] at hk
        rcases hk with hk | hk
        · exact hL k hk
        · exact bw_Ls (hL b hfb) hk
      · intro k hk
        rw [hf, hI k hk]; rfl
      · intro k hk
        rw [hJ, Bool.or_eq_true] at hk
        rcases hk with hk | hk
        · obtain ⟨a, h1, h2⟩ := hj k hk
          exact ⟨a, by rw [hf, h1]; rfl, h2⟩
        · exact ⟨b, by rw [hf, hfb]; rfl, hk⟩
      · intro k hk
        rw [hJ, Bool.or_eq_true] at hk
        rw [hf, Bool.or_eq_true]
        rcases hk with hk | hk
        · exact Or.inl (hjf k hk)
        · exact Or.inr hk
      · intro a c ha hoa he
        rw [hf] at ha
        rw [hO] at hoa
        simp only [Bool.or_eq_true, Bool.or_eq_false_iff] at ha hoa
        rw [hJ, Bool.or_eq_true]
        by_cases e : b = a
        · subst e; exact Or.inr he
        · have h1 : bw_m o a = false := by
            have := hoa.1
            simpa [e] using this
          have ha : bw_m f a = true := by
            rcases ha with ha | ha
            · exact ha
            · have := hoa.2
              rw [ha] at this
              simpa using this
          exact Or.inl (hc a c ha h1 he)
      · have h1 : bw_c (f &&& (o ^^^ (-1))) 40 < bw_c ((f ||| rim b) &&& (((o &&& (bw_b b ^^^ (-1))) ||| (rim b &&& (f ^^^ (-1)))) ^^^ (-1))) 40 := by
          refine bw_c_lt (fun k _ hk => ?_) ⟨b, hb, ?_, ?_⟩
          · rw [bw_dif] at hk ⊢
            rw [hf, hO]
            simp only [Bool.and_eq_true, Bool.not_eq_true'] at hk
            rw [hk.1, hk.2]; simp
          · rw [bw_dif, hob]; simp
          · rw [bw_dif, hf, hO, hfb, hob]; simp
        omega
    · rw [if_neg hb]
      refine bw_jn_end hL hI hj hjf (fun a b ha he => hc a b ha ?_ he) i
      exact bw_lo_ge hb a (hal a ha)
theorem bw_joins_m {rim : Nat → Int64} {cv bs : Int64} (h40 : ∀ a, a < 40 → ∀ i, bw_m (rim a) i = true → i < 40) (hcv : ∀ i, bw_m cv i = true → i < 40) (i : Nat) :
    bw_m (bw_joins rim cv bs) i = true ↔ ∃ a, bw_L (fun i => bw_m bs i = true ∧ bw_m cv i = true) (fun a b => bw_m (rim a) b = true) a ∧ bw_m (rim a) i = true := by
  have hx : ∀ j, bw_m (bs &&& cv) j = (bw_m bs j && bw_m cv j) := bw_and bs cv
  refine bw_jn_spec h40 40 0 _ _ (fun j h => h) (fun j h => ?_) (fun j h => bw_L0 ?_) (fun j h => ?_) (fun j h => ?_) (fun j h => ?_) (fun a b h1 h2 => ?_) (by omega) i
  · rw [hx, Bool.and_eq_true] at h; exact hcv j h.2
  · rw [hx, Bool.and_eq_true] at h; exact h
  · rw [hx, Bool.and_eq_true]; exact h
  · rw [bw_0] at h; cases h
  · rw [bw_0] at h; cases h
  · rw [h1] at h2; cases h2
/-- the reference's joins -/
def bw_jx (ed : Nat → Int64) (re bs s : Int64) : Int64 := bw_F (bw_m ((bs ||| s) &&& re)) ed s 40
theorem bw_joins_eq {rim ed : Nat → Int64} {cv bs r : Int64} (he : ∀ b, b < 40 → rim b = ed b) (h40 : ∀ a, a < 40 → ∀ i, bw_m (rim a) i = true → bw_m cv i = true) (hcv : ∀ i, bw_m cv i = true → i < 40)
    (hr : bw_Lp (bw_jx ed cv bs) 0 r) : bw_joins rim cv bs = r := by
  have hl := bw_fix2 (I := fun i => ∃ b, b < 40 ∧ (bw_m bs b = true ∧ bw_m cv b = true) ∧ bw_m (ed b) i = true) (E := fun a i => a < 40 ∧ bw_m cv a = true ∧ bw_m (ed a) i = true) (fun _ => True) hr.1 hr.2 trivial (fun _ _ => trivial) (fun i h => by rw [bw_0] at h; cases h) (fun s i _ => by
    unfold bw_jx
    rw [bw_F_m]
    constructor
    · rintro (q | ⟨b, q1, q2, q3⟩)
      · exact Or.inl q
      · rw [bw_and, bw_or, Bool.and_eq_true, Bool.or_eq_true] at q2
        rcases q2 with ⟨q2 | q2, q4⟩
        · exact Or.inr (Or.inl ⟨b, q1, ⟨q2, q4⟩, q3⟩)
        · exact Or.inr (Or.inr ⟨b, q2, q1, q4, q3⟩)
    · rintro (q | ⟨b, q1, q2, q3⟩ | ⟨b, q1, q2, q3, q4⟩)
      · exact Or.inl q
      · refine Or.inr ⟨b, q1, ?_, q3⟩
        rw [bw_and, bw_or, q2.1, q2.2]; rfl
      · refine Or.inr ⟨b, q2, ?_, q4⟩
        rw [bw_and, bw_or, q1, q3]; simp)
  refine bw_meq fun i => ?_
  rw [bw_joins_m (fun a ha i hi => hcv i (h40 a ha i hi)) hcv, hl]
  have hin : ∀ {a : Nat}, bw_L (fun i => bw_m bs i = true ∧ bw_m cv i = true) (fun a b => bw_m (rim a) b = true) a → bw_m cv a = true := fun {a} h =>
    bw_Li (fun z => bw_m cv z = true) (fun _ hj => hj.2) (fun a b _ hs he => h40 a (hcv a hs) b he) h
  constructor
  · rintro ⟨a, h1, h2⟩
    have key : bw_m cv a = true ∧ ∀ i, bw_m (rim a) i = true → bw_L (fun i => ∃ b, b < 40 ∧ (bw_m bs b = true ∧ bw_m cv b = true) ∧ bw_m (ed b) i = true) (fun a i => a < 40 ∧ bw_m cv a = true ∧ bw_m (ed a) i = true) i := by
      refine bw_Li (fun z => bw_m cv z = true ∧ ∀ i, bw_m (rim z) i = true → bw_L (fun i => ∃ b, b < 40 ∧ (bw_m bs b = true ∧ bw_m cv b = true) ∧ bw_m (ed b) i = true) (fun a i => a < 40 ∧ bw_m cv a = true ∧ bw_m (ed a) i = true) i) (fun j hj => ⟨hj.2, fun i hi => ?_⟩) (fun x y _ hs hxy => ?_) h1
      · exact bw_L0 ⟨j, hcv j hj.2, hj, by rw [← he j (hcv j hj.2)]; exact hi⟩
      · have cy := h40 x (hcv x hs.1) y hxy
        exact ⟨cy, fun i hi => bw_Ls (hs.2 y hxy) ⟨hcv y cy, cy, by rw [← he y (hcv y cy)]; exact hi⟩⟩
    exact key.2 i h2
  · intro h
    refine bw_Li (fun z => ∃ a, bw_L (fun i => bw_m bs i = true ∧ bw_m cv i = true) (fun a b => bw_m (rim a) b = true) a ∧ bw_m (rim a) z = true) (fun j hj => ?_) (fun x y _ hs hxy => ?_) h
    · obtain ⟨b, h1, h2, h3⟩ := hj
      exact ⟨b, bw_L0 h2, by rw [he b h1]; exact h3⟩
    · obtain ⟨a, h1, h2⟩ := hs
      exact ⟨x, bw_Ls h1 h2, by rw [he x hxy.1]; exact hxy.2.2⟩
/-! circles -/
/-- a set in which each one has one ahead of it holds one in which each one has one behind it -/
theorem bw_circ (F : Nat → Nat → Prop) : ∀ (n : Nat) (C : Int64), bw_c C 64 ≤ n → ¬ C = 0 → (∀ c, bw_m C c = true → ∃ a, bw_m C a = true ∧ F a c) →
    ∃ C' : Int64, ¬ C' = 0 ∧ (∀ i, bw_m C' i = true → bw_m C i = true) ∧ ∀ c, bw_m C' c = true → ∃ a, bw_m C' a = true ∧ F c a := by
  intro n
  induction n with
  | zero =>
    intro C hn h0 _
    obtain ⟨i, hi, hm⟩ := bw_nz h0
    have : bw_c 0 64 < bw_c C 64 := bw_c_lt (fun j _ h => by rw [bw_0] at h; cases h) ⟨i, hi, bw_0 i, hm⟩
    omega
  | succ n ih =>
    intro C hn h0 hp
    by_cases h : ∀ c, bw_m C c = true → ∃ a, bw_m C a = true ∧ F c a
    · exact ⟨C, h0, fun _ h => h, h⟩
    · obtain ⟨c, hc⟩ := Classical.not_forall.mp h
      obtain ⟨hc, hno⟩ := Classical.not_imp.mp hc
      have c64 := bw_lt hc
      have hm : ∀ i, bw_m (C &&& (bw_b c ^^^ (-1))) i = true ↔ bw_m C i = true ∧ c ≠ i := fun i => by
        rw [bw_dif, bw_bit c64, Bool.and_eq_true]; simp
      obtain ⟨C', h1, h2, h3⟩ := ih (C &&& (bw_b c ^^^ (-1))) (by
        have : bw_c (C &&& (bw_b c ^^^ (-1))) 64 < bw_c C 64 := bw_c_lt (fun j _ h => ((hm j).mp h).1) ⟨c, c64, by
          cases hx : bw_m (C &&& (bw_b c ^^^ (-1))) c with
          | false => rfl
          | true => exact absurd rfl ((hm c).mp hx).2, hc⟩
        omega) (by
        obtain ⟨p, h1, h2⟩ := hp c hc
        intro z
        have h3 : c ≠ p := fun e => hno ⟨c, hc, by rw [← e] at h2; exact h2⟩
        have := (hm p).mpr ⟨h1, h3⟩
        rw [z, bw_0] at this; cases this) (fun i hi => by
        obtain ⟨hi, hne⟩ := (hm i).mp hi
        obtain ⟨a, h1, h2⟩ := hp i hi
        refine ⟨a, (hm a).mpr ⟨h1, fun e => hno ⟨i, hi, by rw [e]; exact h2⟩⟩, h2⟩)
      exact ⟨C', h1, fun i hi => ((hm i).mp (h2 i hi)).1, h3⟩
/-- one sweep of isPlain, up to block n -/
def bw_sw (src : Nat → Int64) (left : Int64) : Nat → Int64
  | 0 => left
  | n + 1 => if (src n &&& bw_sw src left n) = 0 then bw_sw src left n &&& (bw_b n ^^^ (-1)) else bw_sw src left n
/-- k sweeps, as long as something is left -/
def bw_swk (src : Nat → Int64) : Nat → Int64 → Int64
  | 0, left => left
  | k + 1, left => if left = 0 then left else bw_swk src k (bw_sw src left 40)
theorem bw_sw_sub {src : Nat → Int64} {left : Int64} : ∀ n, n ≤ 40 → ∀ i, bw_m (bw_sw src left n) i = true → bw_m left i = true := by
  intro n
  induction n with
  | zero => intro _ i h; exact h
  | succ n ih =>
    intro hn i h
    unfold bw_sw at h
    split at h
    · rw [bw_dif, Bool.and_eq_true] at h; exact ih (by omega) i h.1
    · exact ih (by omega) i h
theorem bw_sw_keep {src : Nat → Int64} {left C : Int64} (hC : ∀ c, bw_m C c = true → ∃ a, bw_m C a = true ∧ bw_m (src c) a = true) (h0 : ∀ i, bw_m C i = true → bw_m left i = true) : ∀ n, n ≤ 40 → ∀ i, bw_m C i = true → bw_m (bw_sw src left n) i = true := by
  intro n
  induction n with
  | zero => intro _; exact h0
  | succ n ih =>
    intro hn i h
    have h9 := ih (by omega)
    unfold bw_sw
    split
    · rename_i z
      rw [bw_dif, Bool.and_eq_true, bw_bit (by omega)]
      refine ⟨h9 i h, ?_⟩
      by_cases e : n = i
      · subst e
        obtain ⟨a, h1, h2⟩ := hC n h
        have : bw_m (src n &&& bw_sw src left n) a = true := by rw [bw_and, h2, h9 a h1]; rfl
        rw [z, bw_0] at this; cases this
      · simp [e]
    · exact h9 i h
/-- a sweep that takes nothing away leaves only such as have one ahead -/
theorem bw_sw_fix {src : Nat → Int64} {left : Int64} (hl : ∀ i, bw_m left i = true → i < 40) (h : ∀ i, bw_m left i = true → bw_m (bw_sw src left 40) i = true) : ∀ c, bw_m left c = true → ∃ a, bw_m left a = true ∧ bw_m (src c) a = true := by
  have key : ∀ n, n ≤ 40 → ∀ i, bw_m (bw_sw src left 40) i = true → bw_m (bw_sw src left n) i = true := by
    have step : ∀ n i, n < 40 → bw_m (bw_sw src left (n + 1)) i = true → bw_m (bw_sw src left n) i = true := by
      intro n i hn h
      unfold bw_sw at h
      split at h
      · rw [bw_dif, Bool.and_eq_true] at h; exact h.1
      · exact h
    have go : ∀ k n, n + k = 40 → ∀ i, bw_m (bw_sw src left 40) i = true → bw_m (bw_sw src left n) i = true := by
      intro k
      induction k with
      | zero => intro n e i h; have : n = 40 := by omega
                subst this; exact h
      | succ k ih => intro n e i h; exact step n i (by omega) (ih (n + 1) (by omega) i h)
    intro n hn i h
    exact go (40 - n) n (by omega) i h
  intro c hc
  have c40 := hl c hc
  have hk := key (c + 1) (by omega) c (h c hc)
  unfold bw_sw at hk
  split at hk
  · rw [bw_dif, bw_bit (by omega), Bool.and_eq_true] at hk
    simp at hk
  · rename_i z
    obtain ⟨a, -, ha⟩ := bw_nz z
    rw [bw_and, Bool.and_eq_true] at ha
    exact ⟨a, bw_sw_sub c (by omega) a ha.2, ha.1⟩
theorem bw_swk_keep {src : Nat → Int64} {C : Int64} (hC : ∀ c, bw_m C c = true → ∃ a, bw_m C a = true ∧ bw_m (src c) a = true) : ∀ (k : Nat) (left : Int64), (∀ i, bw_m C i = true → bw_m left i = true) → ∀ i, bw_m C i = true → bw_m (bw_swk src k left) i = true := by
  intro k
  induction k with
  | zero => intro left h; exact h
  | succ k ih =>
    intro left h
    unfold bw_swk
    split
    · exact h
    · exact ih _ (bw_sw_keep hC h 40 (Nat.le_refl 40))
theorem bw_swk_none {src : Nat → Int64} {cv : Int64} (hcv : ∀ i, bw_m cv i = true → i < 40) (hno : ∀ C : Int64, (∀ i, bw_m C i = true → bw_m cv i = true) → (∀ c, bw_m C c = true → ∃ a, bw_m C a = true ∧ bw_m (src c) a = true) → C = 0) : ∀ (k : Nat) (left : Int64), (∀ i, bw_m left i = true → bw_m cv i = true) → bw_c left 64 ≤ k → bw_swk src k left = 0 := by
  intro k
  induction k with
  | zero =>
    intro left _ h
    unfold bw_swk
    by_cases z : left = 0
    · exact z
    · obtain ⟨i, hi, hm⟩ := bw_nz z
      have : bw_c 0 64 < bw_c left 64 := bw_c_lt (fun j _ h => by rw [bw_0] at h; cases h) ⟨i, hi, bw_0 i, hm⟩
      omega
  | succ k ih =>
    intro left hl h
    unfold bw_swk
    by_cases z : left = 0
    · rw [if_pos z]; exact z
    · rw [if_neg z]
      have hs := bw_sw_sub (src := src) (left := left) 40 (Nat.le_refl 40)
      refine ih _ (fun i hi => hl i (hs i hi)) ?_
      by_cases e : ∀ i, bw_m left i = true → bw_m (bw_sw src left 40) i = true
      · exact absurd (hno left hl (bw_sw_fix (fun i hi => hcv i (hl i hi)) e)) z
      · obtain ⟨i, hi⟩ := Classical.not_forall.mp e
        obtain ⟨h1, h2⟩ := Classical.not_imp.mp hi
        have : bw_c (bw_sw src left 40) 64 < bw_c left 64 := bw_c_lt (fun j _ h => hs j h) ⟨i, bw_lt h1, by
          cases hx : bw_m (bw_sw src left 40) i with
          | false => rfl
          | true => exact absurd hx h2, h1⟩
        omega
/-- the class's isPlain: no circle. The reference's: r is a set that a sweep leaves as it is, and none that must stay has gone -/
theorem bw_plain_eq {src dst : Nat → Int64} {cv r : Int64} (hcv : ∀ i, bw_m cv i = true → i < 40) (hsd : ∀ a b, bw_m cv a = true → bw_m cv b = true → (bw_m (src b) a = true ↔ bw_m (dst a) b = true))
    (hr0 : ∀ i, bw_m r i = true → bw_m cv i = true) (hr1 : ∀ c, bw_m r c = true → ∃ a, bw_m r a = true ∧ bw_m (dst c) a = true)
    (hr2 : ∀ C : Int64, (∀ i, bw_m C i = true → bw_m cv i = true) → (∀ c, bw_m C c = true → ∃ a, bw_m C a = true ∧ bw_m (dst c) a = true) → ∀ i, bw_m C i = true → bw_m r i = true) :
    bw_swk src 40 cv = 0 ↔ r = 0 := by
  constructor
  · intro h
    by_cases z : r = 0
    · exact z
    · exfalso
      obtain ⟨C, c0, c1, c2⟩ := bw_circ (fun a b => bw_m (dst b) a = true) 64 r (bw_c_le _ _) z hr1
      have hC : ∀ c, bw_m C c = true → ∃ a, bw_m C a = true ∧ bw_m (src c) a = true := fun c hc => by
        obtain ⟨a, h1, h2⟩ := c2 c hc
        exact ⟨a, h1, (hsd a c (hr0 a (c1 a h1)) (hr0 c (c1 c hc))).mpr h2⟩
      obtain ⟨i, -, hi⟩ := bw_nz c0
      have := bw_swk_keep hC 40 cv (fun i hi => hr0 i (c1 i hi)) i hi
      rw [h, bw_0] at this; cases this
  · intro h
    have hc40 : bw_c cv 64 ≤ 40 := by
      rw [bw_c_cut (k := 40) (fun i hi => by
        cases hx : bw_m cv i with
        | false => rfl
        | true => exact absurd (hcv i hx) (by omega)) 64 (by omega)]
      exact bw_c_le _ _
    refine bw_swk_none hcv (fun C h1 h2 => ?_) 40 cv (fun _ h => h) hc40
    by_cases z : C = 0
    · exact z
    · exfalso
      obtain ⟨C', c0, c1, c2⟩ := bw_circ (fun a b => bw_m (src b) a = true) 64 C (bw_c_le _ _) z h2
      obtain ⟨i, -, hi⟩ := bw_nz c0
      have := hr2 C' (fun i hi => h1 i (c1 i hi)) (fun c hc => by
        obtain ⟨a, q1, q2⟩ := c2 c hc
        exact ⟨a, q1, (hsd c a (h1 c (c1 c hc)) (h1 a (c1 a q1))).mp q2⟩) i hi
      rw [h, bw_0] at this; cases this
/-- the smallest round round b, by the counts of its blocks -/
def bw_sm (bl : Nat → Int64) (b : Nat) : Nat → Option Nat
  | 0 => none
  | n + 1 => match bw_sm bl b n with
    | none => if bw_m (bl n) b = true then some n else none
    | some k => if (bw_m (bl n) b && decide (bw_c (bl n) 40 < bw_c (bl k) 40)) = true then some n else some k
theorem bw_sm_lt {bl : Nat → Int64} {b : Nat} : ∀ {n k : Nat}, bw_sm bl b n = some k → k < n := by
  intro n
  induction n with
  | zero => intro k h; cases h
  | succ n ih =>
    intro k h
    unfold bw_sm at h
    split at h
    · split at h
      · cases h; omega
      · cases h
    · rename_i k' e
      split at h
      · cases h; omega
      · cases h; have := ih e; omega
theorem bw_sm_ext {bl bl' : Nat → Int64} {b : Nat} : ∀ {n : Nat}, (∀ i, i < n → bl i = bl' i) → bw_sm bl b n = bw_sm bl' b n := by
  intro n
  induction n with
  | zero => intro _; rfl
  | succ n ih =>
    intro h
    unfold bw_sm
    rw [ih (fun i hi => h i (by omega)), h n (by omega)]
    split
    · rfl
    · rename_i k e
      rw [h k (by have := bw_sm_lt e; omega)]
def bw_h (o : Option Nat) : Int32 := match o with
  | none => -1
  | some k => nI k
