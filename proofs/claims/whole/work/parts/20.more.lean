theorem bw_fl_s {st : Nat → Int64} {al f o : Int64} {n : Nat} (h : bw_lo o < 40) : bw_fl st al (n + 1) f o = bw_fl st al n (f ||| ((st (bw_lo o) &&& al) &&& (f ^^^ (-1)))) ((o &&& (bw_b (bw_lo o) ^^^ (-1))) ||| ((st (bw_lo o) &&& al) &&& (f ^^^ (-1)))) := if_pos h
theorem bw_fl_x {st : Nat → Int64} {al f o : Int64} {n : Nat} (h : ¬ bw_lo o < 40) : bw_fl st al n f o = f := by
  cases n with
  | zero => rfl
  | succ n => exact if_neg h
theorem bw_out_0 (sb : Nat → Int64) (b : Nat) : bw_out sb b 0 = sb := funext fun j => if_neg (by omega)
theorem bw_out_s (sb : Nat → Int64) (b n : Nat) : vp_updL (bw_out sb b n) n (bw_out sb b n n &&& (bw_b b ^^^ (-1))) = bw_out sb b (n + 1) := funext fun j => by
  by_cases e : j = n
  · subst e
    rw [pk_uLs]
    unfold bw_out
    rw [if_neg (by omega), if_pos (by omega)]
  · rw [pk_uLn e]
    unfold bw_out
    by_cases h : j < n
    · rw [if_pos h, if_pos (by omega)]
    · rw [if_neg h, if_neg (by omega)]
/-- a row whose first n are G's -/
def bw_up (G g : Nat → Int64) (n : Nat) : Nat → Int64 := fun j => if j < n then G j else g j
theorem bw_up_0 (G g : Nat → Int64) : bw_up G g 0 = g := funext fun j => if_neg (by omega)
theorem bw_up_s (G g : Nat → Int64) (n : Nat) {x : Int64} (hx : x = G n) : vp_updL (bw_up G g n) n x = bw_up G g (n + 1) := funext fun j => by
  subst hx
  by_cases e : j = n
  · subst e
    rw [pk_uLs]
    unfold bw_up
    rw [if_pos (by omega)]
  · rw [pk_uLn e]
    unfold bw_up
    by_cases h : j < n
    · rw [if_pos h, if_pos (by omega)]
    · rw [if_neg h, if_neg (by omega)]
theorem bw_up_at {G g : Nat → Int64} {n j : Nat} (h : j < n) : bw_up G g n j = G j := if_pos h
theorem bw_max {a b : Nat} (ha : a < 2 ^ 31) (hb : b < 2 ^ 31) : (if nI a < nI b then nI b else nI a) = nI (if a < b then b else a) := by
  by_cases h : a < b
  · rw [if_pos h, if_pos ((nI_ltI ha hb).mpr h)]
  · rw [if_neg h, if_neg (fun z => h ((nI_ltI ha hb).mp z))]
/-- the smallest round so far -/
def bw_sR (bl : Nat → Int64) (b i : Nat) (hd : Int32) (fw : Nat) : Prop := (bw_sm bl b i = none ∧ hd = -1 ∧ fw = 41) ∨ ∃ j, bw_sm bl b i = some j ∧ hd = nI j ∧ fw = bw_c (bl j) 40
theorem bw_sR_0 (bl : Nat → Int64) (b : Nat) : bw_sR bl b 0 (-1) 41 := Or.inl ⟨rfl, rfl, rfl⟩
theorem bw_sR_le {bl : Nat → Int64} {b i : Nat} {hd : Int32} {fw : Nat} (h : bw_sR bl b i hd fw) : fw ≤ 41 := by
  rcases h with ⟨-, -, h⟩ | ⟨j, -, -, h⟩
  · omega
  · have := bw_c_le (bl j) 40; omega
theorem bw_sR_t {bl : Nat → Int64} {b i : Nat} {hd : Int32} {fw : Nat} (h : bw_sR bl b i hd fw) (h1 : bw_m (bl i) b = true) (h2 : ¬ fw ≤ bw_c (bl i) 40) : bw_sR bl b (i + 1) (nI i) (bw_c (bl i) 40) := by
  refine Or.inr ⟨i, ?_, rfl, rfl⟩
  unfold bw_sm
  rcases h with ⟨e, -, -⟩ | ⟨j, e, -, e3⟩
  · rw [e]; simp [h1]
  · rw [e]
    have : bw_c (bl i) 40 < bw_c (bl j) 40 := by omega
    simp [h1, this]
theorem bw_sR_f {bl : Nat → Int64} {b i : Nat} {hd : Int32} {fw : Nat} (h : bw_sR bl b i hd fw) (h1 : bw_m (bl i) b = false) : bw_sR bl b (i + 1) hd fw := by
  rcases h with ⟨e, e2, e3⟩ | ⟨j, e, e2, e3⟩
  · refine Or.inl ⟨?_, e2, e3⟩
    unfold bw_sm
    rw [e]; simp [h1]
  · refine Or.inr ⟨j, ?_, e2, e3⟩
    unfold bw_sm
    rw [e]; simp [h1]
theorem bw_sR_g {bl : Nat → Int64} {b i : Nat} {hd : Int32} {fw : Nat} (h : bw_sR bl b i hd fw) (h2 : fw ≤ bw_c (bl i) 40) : bw_sR bl b (i + 1) hd fw := by
  have hc := bw_c_le (bl i) 40
  rcases h with ⟨e, e2, e3⟩ | ⟨j, e, e2, e3⟩
  · omega
  · refine Or.inr ⟨j, ?_, e2, e3⟩
    unfold bw_sm
    rw [e]
    have : ¬ bw_c (bl i) 40 < bw_c (bl j) 40 := by omega
    simp [this]
theorem bw_sR_h {bl : Nat → Int64} {b i : Nat} {hd : Int32} {fw : Nat} (h : bw_sR bl b i hd fw) : hd = bw_h (bw_sm bl b i) := by
  rcases h with ⟨e, e2, -⟩ | ⟨j, e, e2, -⟩
  · rw [e, e2]; rfl
  · rw [e, e2]; rfl
theorem bw_c40 {x : Int64} (h : ∀ i, bw_m x i = true → i < 40) : bw_c x 64 = bw_c x 40 := bw_c_cut (fun i hi => by
  cases hx : bw_m x i with
  | false => rfl
  | true => exact absurd (h i hx) (by omega)) 64 (by omega)
theorem bw_nzT {x : Int64} (h : ¬ x = 0) : (!decide (x = 0)) = true := by rw [decide_eq_false h]; rfl
theorem bw_nzF {x : Int64} (h : x = 0) : (!decide (x = 0)) = false := by rw [decide_eq_true h]; rfl
theorem bw_nearA_0 {gt : Nat → Int64} {k i : Nat} {acc : Int64} (ea : acc = bw_A (bw_m (bw_gates gt k &&& (bw_b k ^^^ (-1)))) gt (bw_gates gt k &&& (bw_b k ^^^ (-1))) i) (hi : i = 40) (z : acc = 0) : (-1 : Int32) = bw_nearA gt k := by
  subst hi
  have e9 : acc = bw_near gt k := ea
  unfold bw_nearA
  rw [← e9, if_pos z]
theorem bw_nearA_1 {gt : Nat → Int64} {k i : Nat} {acc : Int64} (ea : acc = bw_A (bw_m (bw_gates gt k &&& (bw_b k ^^^ (-1)))) gt (bw_gates gt k &&& (bw_b k ^^^ (-1))) i) (hi : i = 40) (z : ¬ acc = 0) : nI (bw_lo acc) = bw_nearA gt k := by
  subst hi
  have e9 : acc = bw_near gt k := ea
  unfold bw_nearA
  rw [← e9, if_neg z]
