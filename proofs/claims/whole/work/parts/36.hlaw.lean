/-! the law: its state -/
def bw_Inv (T : Int64) (tc : Nat → Int32) (so go : Nat → Int64) (co : Int64) (sb gb : Nat → Int64) (cb : Int64) (bl : Nat → Int64) (f1 f2 : Int32) (mn tg : Nat → Int32) (kn : Int32) (ms : Nat → Int64) (re gd en : Int64) (ov be : Nat → Int64) (he : Int64) (rd ed : Nat → Int64) (pl : Int32) : Prop :=
  ∃ n t, bw_Rel9 T tc so sb mn tg n t ∧ (kn = 0 ∨ (kn = 1 ∧ bw_Mk T n t ms re gd en ov be he rd ed pl)) ∧ (f1 = 0 → bw_VO T so sb go co bl) ∧ (f2 = 0 → bw_VB T tc sb gb cb)
theorem bw_Inv_m {T : Int64} {tc : Nat → Int32} {so go : Nat → Int64} {co : Int64} {sb gb : Nat → Int64} {cb : Int64} {bl : Nat → Int64} {mn tg : Nat → Int32} {ms : Nat → Int64} {re gd en : Int64} {ov be : Nat → Int64} {he : Int64} {rd ed : Nat → Int64} {pl : Int32} (h : bw_Rel T tc so sb mn tg) : bw_Inv T tc so go co sb gb cb bl 1 1 mn tg 0 ms re gd en ov be he rd ed pl := by
  obtain ⟨n, t, h9⟩ := bw_Rel_to9 h
  exact ⟨n, t, h9, Or.inl rfl, fun z => absurd z (by decide), fun z => absurd z (by decide)⟩
theorem bw_lgt {L q : Nat} (hL : L ≤ 1536) (hq : q ≤ 600) : nI L - nI 3 < nI (3 * q) ↔ L < 3 * q + 3 := by
  rw [Int32.lt_iff_toInt_lt, pk_sub_toInt (by omega) (by omega), nI_toInt (by omega)]; omega
section BWS
variable {p : Program} {l : Launch} {e : Env} {R : Room} {s : State} {m : MethodId} {args : Array Value} {below : List Frame} {meth : Method} {c : Code} {H : Heap} {locs : List Loc} {cells slots : Nat} {Q : State → Prop}
variable {cc : ByteArray} {pc : Nat} {ls : Array Slot} {rest : List Value} {A : Nat → Prop} {H0 : Heap}
theorem bw_sld (hexec : p.tables.exec = Jvm.exec) (hb : c.code = cc) {b L : Nat} {xs : Nat → Int32} (hX : va_X b L xs s H0) (hbl : b < H0.size) (hbA : ¬ A b) (hS : va_S A H0 H locs) {k : Nat} (hk : k < L) (hL : L < 2 ^ 31) (hdg : decode cc pc = .ok (.iaload, 1))
    (kk : W p l e R s m args below meth c H locs cells slots Q (F0 m (pc + 1) ls (.int (xs k) :: rest))) : W p l e R s m args below meth c H locs cells slots Q (F0 m pc ls (.int (nI k) :: .ref b :: rest)) :=
  va_sld hexec hb hX hbl hbA hS (vp_in_nI hk hL) hdg (by rw [nI_clamp (by omega)]; exact kk)
end BWS
theorem bw_wh (w : Int32) : w = 0 ∨ w = 1 ∨ w = 2 ∨ w = 3 ∨ w = 4 ∨ w = 5 ∨ (w.toInt < 0 ∨ 5 < w.toInt) := by
  have h : ∀ j : Int32, w.toInt = j.toInt → w = j := fun j e => Int32.toInt_inj.mp e
  have e0 : (0 : Int32).toInt = 0 := by decide
  have e1 : (1 : Int32).toInt = 1 := by decide
  have e2 : (2 : Int32).toInt = 2 := by decide
  have e3 : (3 : Int32).toInt = 3 := by decide
  have e4 : (4 : Int32).toInt = 4 := by decide
  have e5 : (5 : Int32).toInt = 5 := by decide
  rcases (show w.toInt = 0 ∨ w.toInt = 1 ∨ w.toInt = 2 ∨ w.toInt = 3 ∨ w.toInt = 4 ∨ w.toInt = 5 ∨ (w.toInt < 0 ∨ 5 < w.toInt) by omega) with z | z | z | z | z | z | z
  · exact Or.inl (h 0 (by omega))
  · exact Or.inr (Or.inl (h 1 (by omega)))
  · exact Or.inr (Or.inr (Or.inl (h 2 (by omega))))
  · exact Or.inr (Or.inr (Or.inr (Or.inl (h 3 (by omega)))))
  · exact Or.inr (Or.inr (Or.inr (Or.inr (Or.inl (h 4 (by omega))))))
  · exact Or.inr (Or.inr (Or.inr (Or.inr (Or.inr (Or.inl (h 5 (by omega)))))))
  · exact Or.inr (Or.inr (Or.inr (Or.inr (Or.inr (Or.inr z)))))
