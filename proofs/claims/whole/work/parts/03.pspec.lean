/-! PURE 4: the class's sets and the reference's are the same sets -/
/-- the reference's loops, with sets that come in at every turn -/
theorem bw_fix2 {nx : Int64 → Int64} {s0 r : Int64} {I : Nat → Prop} {E : Nat → Nat → Prop} (J : Int64 → Prop) (hr : ∀ P : Int64 → Prop, P s0 → (∀ s, P s → P (nx s)) → P r) (hf : nx r = r)
    (hJ0 : J s0) (hJ : ∀ s, J s → J (nx s)) (h0 : ∀ i, bw_m s0 i = true → I i) (hs : ∀ s i, J s → (bw_m (nx s) i = true ↔ (bw_m s i = true ∨ I i ∨ ∃ a, bw_m s a = true ∧ E a i))) (i : Nat) : bw_m r i = true ↔ bw_L I E i := by
  have k1 : J r ∧ ∀ i, bw_m r i = true → bw_L I E i := by
    refine hr (fun x => J x ∧ ∀ i, bw_m x i = true → bw_L I E i) ⟨hJ0, fun i h => bw_L0 (h0 i h)⟩ (fun s hs9 => ?_)
    refine ⟨hJ s hs9.1, fun i h => ?_⟩
    rcases (hs s i hs9.1).mp h with h | h | ⟨a, h1, h2⟩
    · exact hs9.2 i h
    · exact bw_L0 h
    · exact bw_Ls (hs9.2 a h1) h2
  refine ⟨k1.2 i, fun h => bw_Li (fun z => bw_m r z = true) (fun j hj => ?_) (fun a b _ hs9 he => ?_) h⟩
  · rw [← hf]
    exact (hs r j k1.1).mpr (Or.inr (Or.inl hj))
  · rw [← hf]
    exact (hs r b k1.1).mpr (Or.inr (Or.inr ⟨a, hs9, he⟩))
/-- the reference's steps: those between blocks that are told -/
def bw_ms (T : Int64) (st ms : Nat → Int64) : Prop := ∀ b, b < 40 → ∀ i, bw_m (ms b) i = true ↔ bw_m T b = true ∧ bw_m (st b) i = true ∧ bw_m T i = true
/-- steps and steps back -/
def bw_sb (st sb : Nat → Int64) : Prop := (∀ a b, a < 40 → b < 40 → (bw_m (sb b) a = true ↔ bw_m (st a) b = true)) ∧ (∀ b a, b < 40 → bw_m (sb b) a = true → a < 40) ∧ ∀ a b, a < 40 → bw_m (st a) b = true → b < 40
def bw_40 (T : Int64) : Prop := ∀ i, bw_m T i = true → i < 40
def bw_off (T : Int64) (st : Nat → Int64) : Prop := ∀ a, a < 40 → bw_m T a = false → st a = 0
/-- a loop's end: a fixed point, with all that the turns keep -/
def bw_Lp (nx : Int64 → Int64) (s0 r : Int64) : Prop := (∀ P : Int64 → Prop, P s0 → (∀ s, P s → P (nx s)) → P r) ∧ nx r = r
/-- comeTo -/
def bw_cn (ms : Nat → Int64) (w : Option Nat) (s : Int64) : Int64 := match w with
  | none => bw_F (bw_m s) ms s 40
  | some d => bw_F (bw_m s) ms s 40 &&& (bw_b d ^^^ (-1))
def bw_c0 (T : Int64) (w : Option Nat) : Int64 := if w = some 0 then 0 else T &&& 1
theorem bw_come {T : Int64} {st ms : Nat → Int64} {w : Option Nat} {r : Int64} (h40 : bw_40 T) (hm : bw_ms T st ms) (hw : ∀ d, w = some d → d < 40) (h : bw_Lp (bw_cn ms w) (bw_c0 T w) r) (i : Nat) :
    bw_m r i = true ↔ bw_G (bw_I (bw_b 0) T) (bw_E st T) w i := by
  have hF : ∀ s i, bw_m (bw_cn ms w s) i = true ↔ (bw_m s i = true ∨ ∃ a, a < 40 ∧ bw_m s a = true ∧ bw_m (ms a) i = true) ∧ w ≠ some i := by
    intro s i
    cases w with
    | none => unfold bw_cn; dsimp only; rw [bw_F_m]; simp
    | some d =>
      unfold bw_cn; dsimp only
      rw [bw_dif, Bool.and_eq_true, bw_F_m, bw_bit (by have := hw d rfl; omega)]; simp
  have h0 : ∀ i, bw_m (bw_c0 T w) i = true ↔ bw_I (bw_b 0) T i ∧ w ≠ some i := by
    intro i
    unfold bw_c0 bw_I
    by_cases e : w = some 0
    · rw [if_pos e, bw_0, bw_bit (by omega), e]
      constructor
      · intro z; cases z
      · rintro ⟨⟨a, -⟩, b⟩
        simp only [decide_eq_true_eq] at a
        exact absurd (by rw [a]) b
    · rw [if_neg e, bw_and, Bool.and_eq_true, bw_bit (by omega), bw_one]
      constructor
      · rintro ⟨a, b⟩
        refine ⟨⟨b, a⟩, ?_⟩
        simp only [decide_eq_true_eq] at b
        rw [← b]; exact e
      · rintro ⟨⟨a, b⟩, -⟩; exact ⟨b, a⟩
  refine bw_fix (I := fun i => bw_I (bw_b 0) T i ∧ w ≠ some i) (E := fun a b => bw_E st T a b ∧ w ≠ some b) (fun s => ∀ i, bw_m s i = true → bw_m T i = true ∧ w ≠ some i) h.1 h.2 (fun i hi => ?_) (fun s hs i hi => ?_) h0 (fun s i hs => ?_) i
  · have := (h0 i).mp hi
    exact ⟨this.1.2, this.2⟩
  · have hi := (hF s i).mp hi
    refine ⟨?_, hi.2⟩
    rcases hi.1 with q | ⟨a, q1, q2, q3⟩
    · exact (hs i q).1
    · exact ((hm a q1 i).mp q3).2.2
  · rw [hF]
    constructor
    · rintro ⟨q | ⟨a, q1, q2, q3⟩, q4⟩
      · exact Or.inl q
      · have := (hm a q1 i).mp q3
        exact Or.inr ⟨a, q2, ⟨this.2.1, this.2.2⟩, q4⟩
    · rintro (q | ⟨a, q1, q2, q3⟩)
      · exact ⟨Or.inl q, (hs i q).2⟩
      · have ha := (hs a q1).1
        exact ⟨Or.inr ⟨a, h40 a ha, q1, (hm a (h40 a ha) i).mpr ⟨ha, q2.1, q2.2⟩⟩, q3⟩
/-- leadTo -/
def bw_nt (w : Option Nat) : Int64 := match w with
  | none => 0
  | some d => bw_b d
def bw_ln (T : Int64) (ms : Nat → Int64) (nt s : Int64) : Int64 := bw_F (fun b => bw_m (T &&& (nt ^^^ (-1))) b && !decide ((ms b &&& s) = 0)) bw_b s 40
theorem bw_meet {x y : Int64} : (!decide ((x &&& y) = 0)) = true ↔ ∃ i, bw_m x i = true ∧ bw_m y i = true := by
  rw [Bool.not_eq_true', decide_eq_false_iff_not]
  constructor
  · intro h
    obtain ⟨i, -, hi⟩ := bw_nz h
    rw [bw_and, Bool.and_eq_true] at hi
    exact ⟨i, hi⟩
  · rintro ⟨i, h1, h2⟩ h
    have : bw_m (x &&& y) i = true := by rw [bw_and, h1, h2]; rfl
    rw [h, bw_0] at this; cases this
theorem bw_nt_m {w : Option Nat} (hw : ∀ d, w = some d → d < 40) (x : Int64) (i : Nat) : bw_m (x &&& (bw_nt w ^^^ (-1))) i = true ↔ bw_m x i = true ∧ w ≠ some i := by
  cases w with
  | none => rw [bw_dif]; unfold bw_nt; dsimp only; rw [bw_0]; simp
  | some d =>
    rw [bw_dif]; unfold bw_nt; dsimp only
    rw [bw_bit (by have := hw d rfl; omega)]; simp
theorem bw_lead {T so : Int64} {ms : Nat → Int64} {w : Option Nat} {r : Int64} (hw : ∀ d, w = some d → d < 40) (h : bw_Lp (bw_ln T ms (bw_nt w)) (so &&& (bw_nt w ^^^ (-1))) r) (i : Nat) :
    bw_m r i = true ↔ bw_L (fun i => bw_m so i = true ∧ w ≠ some i) (fun a b => b < 40 ∧ (bw_m T b = true ∧ w ≠ some b) ∧ bw_m (ms b) a = true) i := by
  refine bw_fix (fun _ => True) h.1 h.2 trivial (fun _ _ => trivial) (fun i => bw_nt_m hw so i) (fun s i _ => ?_) i
  unfold bw_ln
  rw [bw_F_m]
  constructor
  · rintro (q | ⟨b, q1, q2, q3⟩)
    · exact Or.inl q
    · rw [bw_bit (by omega)] at q3
      simp only [decide_eq_true_eq] at q3
      subst q3
      rw [Bool.and_eq_true, bw_nt_m hw, bw_meet] at q2
      obtain ⟨q2, a, q3, q4⟩ := q2
      exact Or.inr ⟨a, q4, q1, q2, q3⟩
  · rintro (q | ⟨a, q1, q2, q3, q4⟩)
    · exact Or.inl q
    · refine Or.inr ⟨i, q2, ?_, ?_⟩
      · rw [Bool.and_eq_true, bw_nt_m hw, bw_meet]
        exact ⟨q3, a, q4, q1⟩
      · rw [bw_bit (by omega)]; simp
theorem bw_leadE {T en : Int64} {st sb ms : Nat → Int64} {w : Option Nat} {r : Int64} (h40 : bw_40 T) (hm : bw_ms T st ms) (hsb : bw_sb st sb) (hen : ∀ i, bw_m en i = true → bw_m T i = true) (hw : ∀ d, w = some d → d < 40)
    (h : bw_Lp (bw_ln T ms (bw_nt w)) (en &&& (bw_nt w ^^^ (-1))) r) (i : Nat) : bw_m r i = true ↔ bw_G (bw_I en T) (bw_E sb T) w i := by
  rw [bw_lead hw h]
  constructor
  · refine bw_Lc (fun j hj => ⟨⟨hj.1, hen j hj.1⟩, hj.2⟩) (fun a b ha he => ?_)
    have q := (hm b he.1 a).mp he.2.2
    exact ⟨⟨(hsb.1 b a he.1 (h40 a q.2.2)).mpr q.2.1, q.1⟩, he.2.1.2⟩
  · refine bw_Lc (fun j hj => ⟨hj.1.1, hj.2⟩) (fun a b ha he => ?_)
    have hTa : bw_m T a = true := bw_G_T ha
    have hb := h40 b he.1.2
    exact ⟨hb, ⟨he.1.2, he.2⟩, (hm b hb a).mpr ⟨he.1.2, (hsb.1 b a hb (h40 a hTa)).mp he.1.1, hTa⟩⟩
/-- over, behind: the other way round -/
def bw_ovS (D : Nat → Nat → Prop) (ov : Nat → Int64) : Prop := ∀ b, b < 40 → ∀ d, bw_m (ov b) d = true ↔ d < 40 ∧ D d b
/-- gates = over -/
def bw_gates (gt : Nat → Int64) (b : Nat) : Int64 := bw_F (fun d => bw_m (gt d) b) bw_b 0 40
theorem bw_gates_m {gt : Nat → Int64} {D : Nat → Nat → Prop} (hg : ∀ d, d < 40 → ∀ i, bw_m (gt d) i = true ↔ D d i) (b d : Nat) : bw_m (bw_gates gt b) d = true ↔ d < 40 ∧ D d b := by
  unfold bw_gates
  rw [bw_F_m, bw_0]
  constructor
  · rintro (q | ⟨e, q1, q2, q3⟩)
    · cases q
    · rw [bw_bit (by omega)] at q3
      simp only [decide_eq_true_eq] at q3
      subst q3
      exact ⟨q1, (hg e q1 b).mp q2⟩
  · rintro ⟨q1, q2⟩
    refine Or.inr ⟨d, q1, (hg d q1 b).mpr q2, ?_⟩
    rw [bw_bit (by omega)]; simp
theorem bw_meq {x y : Int64} (h : ∀ i, bw_m x i = true ↔ bw_m y i = true) : x = y := bw_ext fun i _ => by
  have := h i
  cases hx : bw_m x i <;> cases hy : bw_m y i <;> simp_all
theorem bw_over_eq {gt ov : Nat → Int64} {D : Nat → Nat → Prop} (hg : ∀ d, d < 40 → ∀ i, bw_m (gt d) i = true ↔ D d i) (ho : bw_ovS D ov) {b : Nat} (hb : b < 40) : bw_gates gt b = ov b :=
  bw_meq fun d => by rw [bw_gates_m hg, ho b hb]
/-- Spread.nearestGate and the reference's nearest -/
def bw_near (gt : Nat → Int64) (b : Nat) : Int64 := bw_A (bw_m (bw_gates gt b &&& (bw_b b ^^^ (-1)))) gt (bw_gates gt b &&& (bw_b b ^^^ (-1))) 40
def bw_nearA (gt : Nat → Int64) (b : Nat) : Int32 := if bw_near gt b = 0 then -1 else nI (bw_lo (bw_near gt b))
/-- an early return at the first of them, else -1 -/
def bw_first (P : Nat → Bool) (r : Int32) : Prop := (∃ d, d < 40 ∧ P d = true ∧ (∀ j, j < d → P j = false) ∧ r = nI d) ∨ ((∀ d, d < 40 → P d = false) ∧ r = -1)
def bw_nP (ov : Nat → Int64) (b d : Nat) : Bool := bw_m (ov b &&& (bw_b b ^^^ (-1))) d && decide (ov d = ov b &&& (bw_b b ^^^ (-1)))
theorem bw_near_eq {gt ov : Nat → Int64} {I : Nat → Prop} {E : Nat → Nat → Prop} (hg : ∀ d, d < 40 → ∀ i, bw_m (gt d) i = true ↔ bw_D I E d i) (ho : bw_ovS (bw_D I E) ov) {b : Nat} (hb : b < 40) {r : Int32}
    (h : bw_first (bw_nP ov b) r) : bw_nearA gt b = r := by
  have e := bw_over_eq hg ho hb
  have hN : ∀ x, bw_m (bw_near gt b) x = true ↔ x < 40 ∧ bw_nP ov b x = true := by
    intro x
    unfold bw_near
    rw [bw_A_m, e]
    have ho' : ∀ z, bw_m (ov b &&& (bw_b b ^^^ (-1))) z = true ↔ (z < 40 ∧ bw_D I E z b) ∧ b ≠ z := fun z => by
      rw [bw_dif, Bool.and_eq_true, ho b hb, bw_bit (by omega)]; simp
    unfold bw_nP
    rw [Bool.and_eq_true, ho', decide_eq_true_eq]
    constructor
    · rintro ⟨⟨⟨q1, q2⟩, q3⟩, q4⟩
      refine ⟨q1, ⟨⟨q1, q2⟩, q3⟩, bw_meq fun y => ?_⟩
      rw [ho x q1, ho']
      constructor
      · rintro ⟨y1, y2⟩
        refine ⟨⟨y1, bw_D_trans y2 q2⟩, fun ey => q3 ?_⟩
        subst ey
        exact bw_D_anti y2 q2
      · rintro ⟨⟨y1, y2⟩, y3⟩
        exact ⟨y1, (hg y y1 x).mp (q4 y y1 ((ho' y).mpr ⟨⟨y1, y2⟩, y3⟩))⟩
    · rintro ⟨q1, q2, q3⟩
      refine ⟨q2, fun y y1 y2 => ?_⟩
      rw [← q3] at y2
      exact (hg y y1 x).mpr ((ho x q1 y).mp y2).2
  unfold bw_nearA
  rcases h with ⟨d, h1, h2, h3, h4⟩ | ⟨h1, h2⟩
  · have hd := (hN d).mpr ⟨h1, h2⟩
    have hne : ¬ bw_near gt b = 0 := fun z => by rw [z, bw_0] at hd; cases hd
    rw [if_neg hne, h4, bw_loT hd (fun j hj => ?_)]
    cases hx : bw_m (bw_near gt b) j with
    | false => rfl
    | true => have := (hN j).mp hx; rw [h3 j hj] at this; cases this.2
  · have : bw_near gt b = 0 := bw_z.mpr fun i => by
      cases hx : bw_m (bw_near gt b) i with
      | false => rfl
      | true => have := (hN i).mp hx; rw [h1 i this.1] at this; cases this.2
    rw [if_pos this, h2]
/-- Spread.rim, and the reference's edges -/
def bw_rim (st gt : Nat → Int64) (cv : Int64) (b : Nat) : Int64 := (bw_F (bw_m (gt b)) st 0 40 &&& cv) &&& ((gt b &&& (bw_b b ^^^ (-1))) ^^^ (-1))
theorem bw_rim_m {st gt : Nat → Int64} {cv : Int64} {b : Nat} (hb : b < 40) (x : Nat) : bw_m (bw_rim st gt cv b) x = true ↔ ((∃ f, f < 40 ∧ bw_m (gt b) f = true ∧ bw_m (st f) x = true) ∧ bw_m cv x = true) ∧ (bw_m (gt b) x = false ∨ b = x) := by
  unfold bw_rim
  rw [bw_dif, bw_dif, bw_bit (by omega), bw_and, Bool.and_eq_true, Bool.and_eq_true, bw_F_m, bw_0]
  have : (!(bw_m (gt b) x && !decide (b = x))) = true ↔ (bw_m (gt b) x = false ∨ b = x) := by
    cases bw_m (gt b) x <;> simp
  rw [this]
  simp
/-- edges[b] of the reference -/
def bw_edS (ms ov ed : Nat → Int64) : Prop := ∀ b, b < 40 → ∀ x, bw_m (ed b) x = true ↔ ∃ y, y < 40 ∧ bw_m (ov y) b = true ∧ x < 40 ∧ bw_m (ms y) x = true ∧ (bw_m (ov x) b = false ∨ x = b)
theorem bw_edge_eq {T : Int64} {st ms gt ov ed : Nat → Int64} {cv : Int64} (h40 : bw_40 T) (hm : bw_ms T st ms) (hc : ∀ i, bw_m cv i = true ↔ bw_G (bw_I (bw_b 0) T) (bw_E st T) none i)
    (hg : ∀ d, d < 40 → ∀ i, bw_m (gt d) i = true ↔ bw_D (bw_I (bw_b 0) T) (bw_E st T) d i) (ho : bw_ovS (bw_D (bw_I (bw_b 0) T) (bw_E st T)) ov) (he : bw_edS ms ov ed) {b : Nat} (hb : b < 40) : bw_rim st gt cv b = ed b := by
  refine bw_meq fun x => ?_
  rw [bw_rim_m hb, he b hb]
  constructor
  · rintro ⟨⟨⟨f, q1, q2, q3⟩, q4⟩, q5⟩
    have d1 := (hg b hb f).mp q2
    have t1 := bw_G_T ((hc x).mp q4)
    refine ⟨f, q1, (ho f q1 b).mpr ⟨hb, d1⟩, h40 x t1, (hm f q1 x).mpr ⟨bw_G_T d1.2.1, q3, t1⟩, ?_⟩
    rcases q5 with q5 | q5
    · left
      cases hx : bw_m (ov x) b with
      | false => rfl
      | true =>
        have := (hg b hb x).mpr ((ho x (h40 x t1) b).mp hx).2
        rw [q5] at this; cases this
    · exact Or.inr q5.symm
  · rintro ⟨y, q1, q2, q3, q4, q5⟩
    have d1 := ((ho y q1 b).mp q2).2
    have m1 := (hm y q1 x).mp q4
    refine ⟨⟨⟨y, q1, (hg b hb y).mpr d1, m1.2.1⟩, (hc x).mpr (bw_Ls d1.2.1 ⟨⟨m1.2.1, m1.2.2⟩, by simp⟩)⟩, ?_⟩
    rcases q5 with q5 | q5
    · left
      cases hx : bw_m (gt b) x with
      | false => rfl
      | true =>
        have := (ho x q3 b).mpr ⟨hb, (hg b hb x).mp hx⟩
        rw [q5] at this; cases this
    · exact Or.inr q5.symm
/-- what hangs on what -/
def bw_haS (ms be : Nat → Int64) (go : Int64) (b : Nat) (r : Int64) : Prop := ∀ a, bw_m r a = true ↔ a < 40 ∧ bw_m go a = true ∧ ¬ (bw_m (be a) b = true ∧ a ≠ b) ∧ ∃ t, t < 40 ∧ bw_m (ms a) t = true ∧ bw_m (be t) b = true
theorem bw_hang_eq {T en : Int64} {st sb ms gt be : Nat → Int64} {cv r : Int64} (h40 : bw_40 T) (hm : bw_ms T st ms) (hsb : bw_sb st sb) (hc : ∀ i, bw_m cv i = true ↔ bw_G (bw_I en T) (bw_E sb T) none i)
    (hg : ∀ d, d < 40 → ∀ i, bw_m (gt d) i = true ↔ bw_D (bw_I en T) (bw_E sb T) d i) (ho : bw_ovS (bw_D (bw_I en T) (bw_E sb T)) be) {b : Nat} (hb : b < 40) (hr : bw_haS ms be cv b r) : bw_rim sb gt cv b = r := by
  refine bw_meq fun x => ?_
  rw [bw_rim_m hb, hr]
  constructor
  · rintro ⟨⟨⟨f, q1, q2, q3⟩, q4⟩, q5⟩
    have d1 := (hg b hb f).mp q2
    have t1 := bw_G_T ((hc x).mp q4)
    have tf := bw_G_T d1.2.1
    refine ⟨h40 x t1, q4, ?_, f, q1, (hm x (h40 x t1) f).mpr ⟨t1, (hsb.1 x f (h40 x t1) q1).mp q3, tf⟩, (ho f q1 b).mpr ⟨hb, d1⟩⟩
    rintro ⟨z1, z2⟩
    rcases q5 with q5 | q5
    · have := (hg b hb x).mpr ((ho x (h40 x t1) b).mp z1).2
      rw [q5] at this; cases this
    · exact z2 q5.symm
  · rintro ⟨q1, q2, q3, t, q4, q5, q6⟩
    have d1 := ((ho t q4 b).mp q6).2
    have m1 := (hm x q1 t).mp q5
    refine ⟨⟨⟨t, q4, (hg b hb t).mpr d1, (hsb.1 x t q1 q4).mpr m1.2.1⟩, q2⟩, ?_⟩
    by_cases e : b = x
    · exact Or.inr e
    · left
      cases hx : bw_m (gt b) x with
      | false => rfl
      | true => exact absurd ⟨(ho x q1 b).mpr ⟨hb, (hg b hb x).mp hx⟩, fun z => e z.symm⟩ q3
/-- rounds -/
def bw_bl (sb gt : Nat → Int64) (cv : Int64) (h : Nat) : Int64 := if (sb h &&& gt h) = 0 then 0 else bw_flood sb (sb h &&& gt h) (cv &&& (bw_b h ^^^ (-1))) ||| bw_b h
def bw_bk (re : Int64) (ms ov : Nat → Int64) (h : Nat) : Int64 := bw_F (fun b => bw_m re b && bw_m (ms b) h && bw_m (ov b) h) bw_b 0 40
theorem bw_back_eq {T : Int64} {st sb ms gt ov : Nat → Int64} {cv : Int64} (h40 : bw_40 T) (hm : bw_ms T st ms) (hsb : bw_sb st sb) (hc : ∀ i, bw_m cv i = true ↔ bw_G (bw_I (bw_b 0) T) (bw_E st T) none i)
    (hg : ∀ d, d < 40 → ∀ i, bw_m (gt d) i = true ↔ bw_D (bw_I (bw_b 0) T) (bw_E st T) d i) (ho : bw_ovS (bw_D (bw_I (bw_b 0) T) (bw_E st T)) ov) {h : Nat} (hh : h < 40) : bw_bk cv ms ov h = (sb h &&& gt h) := by
  refine bw_meq fun x => ?_
  unfold bw_bk
  rw [bw_F_m, bw_0, bw_and, Bool.and_eq_true]
  constructor
  · rintro (q | ⟨b, q1, q2, q3⟩)
    · cases q
    · rw [bw_bit (by omega)] at q3
      simp only [decide_eq_true_eq] at q3
      subst q3
      simp only [Bool.and_eq_true] at q2
      have d1 := ((ho b q1 h).mp q2.2).2
      exact ⟨(hsb.1 b h q1 hh).mpr ((hm b q1 h).mp q2.1.2).2.1, (hg h hh b).mpr d1⟩
  · rintro ⟨q1, q2⟩
    have d1 := (hg h hh x).mp q2
    have hx := h40 x (bw_G_T d1.2.1)
    refine Or.inr ⟨x, hx, ?_, by rw [bw_bit (by omega)]; simp⟩
    simp only [Bool.and_eq_true]
    exact ⟨⟨(hc x).mpr d1.2.1, (hm x hx h).mpr ⟨bw_G_T d1.2.1, (hsb.1 x h hx hh).mp q1, bw_G_T d1.1⟩⟩, (ho x hx h).mpr ⟨hh, d1⟩⟩
theorem bw_round_eq {T : Int64} {st sb ms gt ov : Nat → Int64} {cv : Int64} (h40 : bw_40 T) (hm : bw_ms T st ms) (hsb : bw_sb st sb) (hc : ∀ i, bw_m cv i = true ↔ bw_G (bw_I (bw_b 0) T) (bw_E st T) none i)
    (hg : ∀ d, d < 40 → ∀ i, bw_m (gt d) i = true ↔ bw_D (bw_I (bw_b 0) T) (bw_E st T) d i) (ho : bw_ovS (bw_D (bw_I (bw_b 0) T) (bw_E st T)) ov) {h : Nat} (hh : h < 40) {r : Int64}
    (hr : bw_Lp (bw_ln T ms (bw_nt (some h))) (bw_bk cv ms ov h &&& (bw_nt (some h) ^^^ (-1))) r) : bw_bl sb gt cv h = if bw_bk cv ms ov h = 0 then 0 else bw_b h ||| (r &&& cv) := by
  have e := bw_back_eq h40 hm hsb hc hg ho hh
  have hl := bw_lead (w := some h) (fun d z => by cases z; exact hh) hr
  rw [e] at hl
  unfold bw_bl
  rw [e]
  by_cases z : (sb h &&& gt h) = 0
  · rw [if_pos z, if_pos z]
  · rw [if_neg z, if_neg z]
    have hal : ∀ j, bw_m (cv &&& (bw_b h ^^^ (-1))) j = true ↔ bw_G (bw_I (bw_b 0) T) (bw_E st T) none j ∧ h ≠ j := fun j => by
      rw [bw_dif, bw_bit (by omega), Bool.and_eq_true, hc]; simp
    have key : ∀ i, bw_m (bw_flood sb (sb h &&& gt h) (cv &&& (bw_b h ^^^ (-1)))) i = true ↔ bw_m r i = true ∧ bw_m cv i = true := by
      intro i
      rw [bw_flood_spec (fun j hj => h40 j (bw_G_T ((hal j).mp hj).1)), hl]
      constructor
      · intro q
        constructor
        · refine bw_Lc (fun j hj => ⟨hj.1, fun y => ((hal j).mp hj.2).2 (Option.some.inj y)⟩) (fun a b ha he => ?_) q
          have hb := (hal b).mp he.2
          have tb := bw_G_T hb.1
          have ta : bw_m T a = true := bw_Li (fun z => bw_m T z = true) (fun j hj => bw_G_T ((hal j).mp hj.2).1) (fun _ c _ _ he => bw_G_T ((hal c).mp he.2).1) ha
          exact ⟨h40 b tb, ⟨tb, fun y => hb.2 (Option.some.inj y)⟩, (hm b (h40 b tb) a).mpr ⟨tb, (hsb.1 b a (h40 b tb) (h40 a ta)).mp he.1, ta⟩⟩
        · exact bw_Li (fun z => bw_m cv z = true) (fun j hj => (hc j).mpr ((hal j).mp hj.2).1) (fun _ b _ _ he => (hc b).mpr ((hal b).mp he.2).1) q
      · rintro ⟨q1, q2⟩
        refine bw_Li (fun z => bw_m cv z = true → bw_L _ _ z) (fun j hj hcj => bw_L0 ⟨hj.1, (hal j).mpr ⟨(hc j).mp hcj, fun y => hj.2 (by rw [y])⟩⟩) (fun a b _ hs he hcb => ?_) q1 q2
        have hb := (hc b).mp hcb
        have m1 := (hm b he.1 a).mp he.2.2
        have hca : bw_m cv a = true := (hc a).mpr (bw_Ls hb ⟨⟨m1.2.1, m1.2.2⟩, by simp⟩)
        exact bw_Ls (hs hca) ⟨(hsb.1 b a he.1 (h40 a m1.2.2)).mpr m1.2.1, (hal b).mpr ⟨hb, fun y => he.2.1.2 (by rw [y])⟩⟩
    refine bw_meq fun i => ?_
    rw [bw_or, bw_or, bw_and, Bool.or_eq_true, Bool.or_eq_true, Bool.and_eq_true, key]
    exact Or.comm
