/-! helpers of the reference's walks -/
theorem bw_isF {x : Int64} {k : Nat} (hk : k < 64) (h : ¬ ((x >>> ((nI k).toInt64 &&& 63)) &&& 1) = 1) : bw_m x k = false := by
  cases hx : bw_m x k with
  | false => rfl
  | true => exact absurd ((bw_is hk).mpr hx) h
theorem bw_isT {x : Int64} {k : Nat} (hk : k < 64) (h : ((x >>> ((nI k).toInt64 &&& 63)) &&& 1) = 1) : bw_m x k = true := (bw_is hk).mp h
theorem bw_nm1 {d : Nat} (h : d < 2 ^ 31) : ¬ nI d = -1 := fun e => by
  have h1 := nI_toInt h
  rw [e] at h1
  have h2 : ((-1 : Int32)).toInt = -1 := by decide
  omega
/-- x comes out of the turns that begin at s0 -/
def bw_Rc (nx : Int64 → Int64) (s0 x : Int64) : Prop := ∀ P : Int64 → Prop, P s0 → (∀ s, P s → P (nx s)) → P x
theorem bw_Rc_0 {nx : Int64 → Int64} {s0 x : Int64} (e : x = s0) : bw_Rc nx s0 x := fun _ h _ => by rw [e]; exact h
theorem bw_Rc_s {nx : Int64 → Int64} {s0 x y : Int64} (h : bw_Rc nx s0 x) (e : y = nx x) : bw_Rc nx s0 y := fun P h0 h1 => by rw [e]; exact h1 x (h P h0 h1)
theorem bw_grow {x y : Int64} (h : ∀ i, bw_m x i = true → bw_m y i = true) (hne : ¬ y = x) : bw_c x 64 < bw_c y 64 := by
  refine bw_c_lt (fun i _ => h i) ?_
  by_cases e : ∃ i, i < 64 ∧ bw_m x i = false ∧ bw_m y i = true
  · exact e
  · refine absurd (bw_ext fun i hi => ?_) hne
    cases hx : bw_m x i with
    | true => exact h i hx
    | false =>
      cases hy : bw_m y i with
      | false => rfl
      | true => exact absurd ⟨i, hi, hx, hy⟩ e
/-- a loop that goes on while it grows: its flag, its fuel -/
def bw_Mo (nx : Int64 → Int64) (sx : Int64) (mo : Int32) (n : Nat) : Prop := (mo = 1 ∧ 65 < n + bw_c sx 64) ∨ (mo = 0 ∧ 0 < n ∧ nx sx = sx)
theorem bw_Mo_z {nx : Int64 → Int64} {sx : Int64} {mo : Int32} (h : bw_Mo nx sx mo 0) : False := by
  have := bw_c_le sx 64
  rcases h with ⟨-, h⟩ | ⟨-, h, -⟩ <;> omega
theorem bw_Mo_0 {nx : Int64 → Int64} {sx : Int64} : bw_Mo nx sx 1 67 := Or.inl ⟨rfl, by omega⟩
theorem bw_Mo_x {nx : Int64 → Int64} {s0 sx : Int64} {mo : Int32} {n : Nat} (hr : bw_Rc nx s0 sx) (h : bw_Mo nx sx mo n) (c : mo = 0) : bw_Lp nx s0 sx := by
  rcases h with ⟨h, -⟩ | ⟨-, -, h⟩
  · rw [c] at h; exact absurd h (by decide)
  · exact ⟨hr, h⟩
theorem bw_Mo_t {nx : Int64 → Int64} {sx y : Int64} {mo : Int32} {n : Nat} (h : bw_Mo nx sx mo (n + 1)) (c : ¬ mo = 0) (hm : ∀ i, bw_m sx i = true → bw_m (nx sx) i = true) (e : y = nx sx) (hne : ¬ y = sx) : bw_Mo nx y 1 n := by
  rcases h with ⟨-, h⟩ | ⟨h, -⟩
  · rw [e] at hne ⊢
    have := bw_grow hm hne
    exact Or.inl ⟨rfl, by omega⟩
  · exact absurd h c
theorem bw_Mo_f {nx : Int64 → Int64} {sx y : Int64} {mo : Int32} {n : Nat} (h : bw_Mo nx sx mo (n + 1)) (c : ¬ mo = 0) (e : y = nx sx) (heq : y = sx) : bw_Mo nx y 0 n := by
  have := bw_c_le sx 64
  rcases h with ⟨-, h⟩ | ⟨h, -⟩
  · refine Or.inr ⟨rfl, by omega, ?_⟩
    rw [heq]
    rw [heq] at e
    exact e.symm
  · exact absurd h c
theorem bw_F_up {c : Nat → Bool} {g : Nat → Int64} {z : Int64} {n i : Nat} (h : bw_m z i = true) : bw_m (bw_F c g z n) i = true := (bw_F_m c g z n i).mpr (Or.inl h)
theorem bw_cn_up {T : Int64} {ms : Nat → Int64} {w : Option Nat} {sx : Int64} (hw : ∀ d, w = some d → d < 40) (hr : bw_Rc (bw_cn ms w) (bw_c0 T w) sx) : ∀ i, bw_m sx i = true → bw_m (bw_cn ms w sx) i = true := by
  cases w with
  | none => intro i h; exact bw_F_up h
  | some d =>
    have hd := hw d rfl
    have h0 : bw_m sx d = false := hr (fun s => bw_m s d = false) (by
      unfold bw_c0
      by_cases e : d = 0
      · subst e; rw [if_pos rfl, bw_0]
      · rw [if_neg (fun z => e (Option.some.inj z)), bw_and, bw_one, decide_eq_false (fun z => e z.symm), Bool.and_false]) (fun s _ => by
      show bw_m (bw_F (bw_m s) ms s 40 &&& (bw_b d ^^^ (-1))) d = false
      rw [bw_dif, bw_bit (by omega)]; simp)
    intro i h
    show bw_m (bw_F (bw_m sx) ms sx 40 &&& (bw_b d ^^^ (-1))) i = true
    rw [bw_dif, bw_bit (by omega), bw_F_up h]
    have : ¬ d = i := fun e => by rw [← e, h0] at h; cases h
    simp [this]
theorem bw_ln_up {T : Int64} {ms : Nat → Int64} {nt sx : Int64} : ∀ i, bw_m sx i = true → bw_m (bw_ln T ms nt sx) i = true := fun _ h => bw_F_up h
theorem bw_jx_up {ed : Nat → Int64} {re bs sx : Int64} : ∀ i, bw_m sx i = true → bw_m (bw_jx ed re bs sx) i = true := fun _ h => bw_F_up h
theorem bw_c0_n (T : Int64) : T &&& 1 = bw_c0 T none := (if_neg (by simp)).symm
theorem bw_c0_z {T : Int64} {d : Nat} (hd : d < 40) (h : nI d = 0) : 0 = bw_c0 T (some d) := by
  have e : d = 0 := (nI_eq (by omega) (by decide)).mp (h.trans nI_0.symm)
  subst e
  exact (if_pos rfl).symm
theorem bw_c0_s {T : Int64} {d : Nat} (h : ¬ nI d = 0) : T &&& 1 = bw_c0 T (some d) := (if_neg (fun z => h (by rw [Option.some.inj z]; rfl))).symm
theorem bw_lnT {T x y : Int64} {i : Nat} (h1 : bw_m T i = true) (h2 : ¬ (x &&& y) = 0) : (bw_m T i && !decide ((x &&& y) = 0)) = true := by rw [h1, bw_nzT h2]; rfl
theorem bw_lnF1 {T x y : Int64} {i : Nat} (h1 : bw_m T i = false) : (bw_m T i && !decide ((x &&& y) = 0)) = false := by rw [h1]; rfl
theorem bw_lnF2 {T x y : Int64} {i : Nat} (h2 : (x &&& y) = 0) : (bw_m T i && !decide ((x &&& y) = 0)) = false := by rw [bw_nzF h2, Bool.and_false]
theorem bw_a3T {a b c : Bool} (h1 : a = true) (h2 : b = true) (h3 : c = true) : (a && b && c) = true := by rw [h1, h2, h3]; rfl
theorem bw_a3F1 {a b c : Bool} (h1 : a = false) : (a && b && c) = false := by rw [h1]; rfl
theorem bw_a3F2 {a b c : Bool} (h1 : b = false) : (a && b && c) = false := by rw [h1, Bool.and_false]; rfl
theorem bw_a3F3 {a b c : Bool} (h1 : c = false) : (a && b && c) = false := by rw [h1, Bool.and_false]
/-- nearest's loop -/
theorem bw_first_t {P : Nat → Bool} {i : Nat} (h : i < 40) (hp : P i = true) (hn : ∀ j, j < i → P j = false) : bw_first P (nI i) := Or.inl ⟨i, h, hp, hn, rfl⟩
theorem bw_first_f {P : Nat → Bool} {i : Nat} (h : 40 ≤ i) (hn : ∀ j, j < i → P j = false) : bw_first P (-1) := Or.inr ⟨fun d hd => hn d (by omega), rfl⟩
theorem bw_nPT {ov : Nat → Int64} {b d : Nat} (h1 : bw_m (ov b &&& (bw_b b ^^^ (-1))) d = true) (h2 : ov d = ov b &&& (bw_b b ^^^ (-1))) : bw_nP ov b d = true := by unfold bw_nP; rw [h1, decide_eq_true h2]; rfl
theorem bw_nPF1 {ov : Nat → Int64} {b d : Nat} (h1 : bw_m (ov b &&& (bw_b b ^^^ (-1))) d = false) : bw_nP ov b d = false := by unfold bw_nP; rw [h1]; rfl
theorem bw_nPF2 {ov : Nat → Int64} {b d : Nat} (h2 : ¬ ov d = ov b &&& (bw_b b ^^^ (-1))) : bw_nP ov b d = false := by unfold bw_nP; rw [decide_eq_false h2, Bool.and_false]
