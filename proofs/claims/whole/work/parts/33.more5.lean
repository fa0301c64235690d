theorem bw_X_t {f : Nat → Nat} {n : Nat} (h : bw_X f n < f n) : bw_X f (n + 1) = f n := if_pos h
theorem bw_X_f {f : Nat → Nat} {n : Nat} (h : ¬ bw_X f n < f n) : bw_X f (n + 1) = bw_X f n := if_neg h
theorem bw_sR_n {bl : Nat → Int64} {b i : Nat} {hd : Int32} {fw : Nat} (hi : i ≤ 40) (h : bw_sR bl b i hd fw) (c : hd = -1) : bw_sm bl b i = none := by
  rcases h with ⟨e, -, -⟩ | ⟨j, e, e2, -⟩
  · exact e
  · have := bw_sm_lt e
    rw [e2] at c
    exact absurd c (bw_nm1 (by omega))
theorem bw_sR_o {bl : Nat → Int64} {b i : Nat} {hd : Int32} {fw : Nat} (h : bw_sR bl b i hd fw) (c : ¬ hd = -1) : ∃ j, bw_sm bl b i = some j ∧ hd = nI j := by
  rcases h with ⟨-, e, -⟩ | ⟨j, e, e2, -⟩
  · exact absurd e c
  · exact ⟨j, e, e2⟩
/-- inner of the reference: its answer and its flag -/
def bw_inP (rd : Nat → Int64) (k : Nat) (r tw : Int32) : Prop := (bw_sm rd k 40 = none ∧ r = 0 ∧ tw = 1) ∨ ∃ j, bw_sm rd k 40 = some j ∧ r = nI j ∧ tw = 0
theorem bw_inP_n {rd : Nat → Int64} {k i : Nat} {hd : Int32} {fw : Nat} (h : bw_sR rd k i hd fw) (hi : i = 40) (c : hd = -1) : bw_inP rd k 0 1 := by
  subst hi; exact Or.inl ⟨bw_sR_n (Nat.le_refl _) h c, rfl, rfl⟩
theorem bw_inP_s {rd : Nat → Int64} {k i : Nat} {hd : Int32} {fw : Nat} (h : bw_sR rd k i hd fw) (hi : i = 40) (c : ¬ hd = -1) : bw_inP rd k hd 0 := by
  subst hi
  obtain ⟨j, e1, e2⟩ := bw_sR_o h c
  exact Or.inr ⟨j, e1, e2, rfl⟩
