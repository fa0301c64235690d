/-! helpers of the walks -/
section BWH
variable {p : Program} {l : Launch} {e : Env} {R : Room} {s : State} {m : MethodId} {args : Array Value} {below : List Frame} {meth : Method} {c : Code} {H : Heap} {locs : List Loc} {cells slots : Nat} {Q : State → Prop}
variable {cc : ByteArray} {pc : Nat} {ls : Array Slot} {rest : List Value} {D : va_G} {cl : List vw_C} {A : Nat → Prop} {a : Nat} {tys : List (ClassId × FieldType)} {ws : va_W} {H0 : Heap}
theorem bw_C {mc ms : Nat} {g : JFrame} {Qa : State → Outcome → State → Prop} {free : Addr → Prop} (h : va_Run p l e R s m args below meth c H locs cells slots mc ms g rest Qa free) : CallRun p l e R s m args below meth c H locs cells slots mc ms g rest Qa free := fun T hT X => by
  obtain ⟨v, st₀, t, T', L, h0, X', hL, e1, e2, hq, st⟩ := h T hT X
  exact ⟨v, st₀, t, T', L, h0, X', hL, e1, hq, st⟩
theorem bw_lald (hexec : p.tables.exec = Jvm.exec) (hb : c.code = cc) (hK : va_K D cl tys s) (hP : va_P D cl ws H) (q0 t0 : Nat) {k : Nat} {cA : ClassId} {n : Nat} {f : Nat → Int64} (ha : ws[q0]? = some (a, .inl (cA, n, .inr (.inl f)))) (ht : tys[t0]? = some (cA, .long)) (hk : k < n) (hn : n < 2 ^ 31) (hdg : decode cc pc = .ok (.laload, 1))
    (kk : W p l e R s m args below meth c H locs cells slots Q (F0 m (pc + 1) ls (.long (f k) :: rest))) : W p l e R s m args below meth c H locs cells slots Q (F0 m pc ls (.int (nI k) :: .ref a :: rest)) :=
  va_lald hexec hb hK hP q0 t0 ha ht (vp_in_nI hk hn) hdg (by rw [nI_clamp (by omega)]; exact kk)
theorem bw_iald (hexec : p.tables.exec = Jvm.exec) (hb : c.code = cc) (hK : va_K D cl tys s) (hP : va_P D cl ws H) (q0 t0 : Nat) {k : Nat} {cA : ClassId} {n : Nat} {f : Nat → Int32} (ha : ws[q0]? = some (a, .inl (cA, n, .inl f))) (ht : tys[t0]? = some (cA, .int)) (hk : k < n) (hn : n < 2 ^ 31) (hdg : decode cc pc = .ok (.iaload, 1))
    (kk : W p l e R s m args below meth c H locs cells slots Q (F0 m (pc + 1) ls (.int (f k) :: rest))) : W p l e R s m args below meth c H locs cells slots Q (F0 m pc ls (.int (nI k) :: .ref a :: rest)) :=
  va_iald hexec hb hK hP q0 t0 ha ht (vp_in_nI hk hn) hdg (by rw [nI_clamp (by omega)]; exact kk)
theorem bw_last (hexec : p.tables.exec = Jvm.exec) (hb : c.code = cc) (hK : va_K D cl tys s) (hP : va_P D cl ws H) (hD : va_D A ws) (hS : va_S A H0 H locs) (q0 t0 : Nat) {k : Nat} {cA : ClassId} {n : Nat} {f : Nat → Int64} (ha : ws[q0]? = some (a, .inl (cA, n, .inr (.inl f)))) (ht : tys[t0]? = some (cA, .long)) {x : Int64} (hk : k < n) (hn : n < 2 ^ 31) (hdg : decode cc pc = .ok (.lastore, 1))
    (kk : ∀ (H1 : Heap) (locs1 : List Loc), va_P D cl (ws.set q0 (a, .inl (cA, n, .inr (.inl (vp_updL f k x))))) H1 → va_D A (ws.set q0 (a, .inl (cA, n, .inr (.inl (vp_updL f k x))))) → va_S A H0 H1 locs1 → W p l e R s m args below meth c H1 locs1 cells slots Q (F0 m (pc + 1) ls rest)) : W p l e R s m args below meth c H locs cells slots Q (F0 m pc ls (.long x :: .int (nI k) :: .ref a :: rest)) :=
  va_last hexec hb hK hP hD hS q0 t0 ha ht (vp_in_nI hk hn) hdg (by rw [nI_clamp (by omega)]; exact kk)
theorem bw_iast (hexec : p.tables.exec = Jvm.exec) (hb : c.code = cc) (hK : va_K D cl tys s) (hP : va_P D cl ws H) (hD : va_D A ws) (hS : va_S A H0 H locs) (q0 t0 : Nat) {k : Nat} {cA : ClassId} {n : Nat} {f : Nat → Int32} (ha : ws[q0]? = some (a, .inl (cA, n, .inl f))) (ht : tys[t0]? = some (cA, .int)) {x : Int32} (hk : k < n) (hn : n < 2 ^ 31) (hdg : decode cc pc = .ok (.iastore, 1))
    (kk : ∀ (H1 : Heap) (locs1 : List Loc), va_P D cl (ws.set q0 (a, .inl (cA, n, .inl (upd f k x)))) H1 → va_D A (ws.set q0 (a, .inl (cA, n, .inl (upd f k x)))) → va_S A H0 H1 locs1 → W p l e R s m args below meth c H1 locs1 cells slots Q (F0 m (pc + 1) ls rest)) : W p l e R s m args below meth c H locs cells slots Q (F0 m pc ls (.int x :: .int (nI k) :: .ref a :: rest)) :=
  va_iast hexec hb hK hP hD hS q0 t0 ha ht (vp_in_nI hk hn) hdg (by rw [nI_clamp (by omega)]; exact kk)
end BWH
theorem bw_nb (c : Bool) : narrow .boolean (.int (bw_i c)) = .int (bw_i c) := by cases c <;> rfl
/-! what a read-only method starts with -/
section BWP
variable {s : State} {H : Heap} {D : va_G} {tys : List (ClassId × FieldType)} {ws : va_W} {As : List Value}
def bw_nx (U : State) : Prop := va_Nw (.methodLinkNest RS 22 yB_bit RB) U ∧ va_Nw (.methodLinkNest RS 36 yB_lowest RB) U ∧ va_Nw (.methodLinkNest RS 32 yB_has RB) U ∧ va_Nw (.methodLinkNest RR 28 yB_bit RB) U ∧ va_Nw (.methodLinkNest RR 37 yB_has RB) U
theorem bw_nx.warm {s U : State} (hW : s.WarmedH U.vm) (h : bw_nx s) : bw_nx U := ⟨va_Nw.warmM hW h.1, va_Nw.warmM hW h.2.1, va_Nw.warmM hW h.2.2.1, va_Nw.warmM hW h.2.2.2.1, va_Nw.warmM hW h.2.2.2.2⟩
theorem bw_nx.call {U : State} {g : JFrame} {mk : MethodId} {a : Array Value} (h : bw_nx U) : bw_nx (U.calling g mk a) := ⟨va_Nw.same rfl rfl h.1, va_Nw.same rfl rfl h.2.1, va_Nw.same rfl rfl h.2.2.1, va_Nw.same rfl rfl h.2.2.2.1, va_Nw.same rfl rfl h.2.2.2.2⟩
/-- read only: the cells, the tables -/
abbrev bw_Ro (D : va_G) (tys : List (ClassId × FieldType)) (ws : va_W) (As : List Value) : Array Value → State → Prop := va_Pc As (fun U => va_P D vwCl ws U.heap ∧ va_K D vwCl tys U ∧ bw_nx U)
theorem bw_pS (hP : va_P D vwCl ws H) (hK : va_K D vwCl tys s) (hN : bw_nx s) : PreS s H (bw_Ro D tys ws As) As :=
  ⟨fun a U g mk q => ⟨q.1, q.2.1, va_K.moved (u := U) (U := U.calling g mk a) (Vm.Alike.refl U.vm) q.2.2.1, bw_nx.call q.2.2.2⟩, fun U hU hW => ⟨rfl, by rw [hU]; exact hP, va_K.moved hW.alike hK, bw_nx.warm hW hN⟩⟩
theorem bw_pV {b ci q0 : Nat} {r : vw_C} {fs : List Value} (hP : va_P D vwCl ws H) (hK : va_K D vwCl tys s) (hN : bw_nx s) (hc : vwCl[ci]? = some r) (he : ws[q0]? = some (b, .inr (ci, fs))) : PreV s H r.1 b (bw_Ro D tys ws (.ref b :: As)) As :=
  ⟨(bw_pS hP hK hN).1, va_recv hK hP hc he, (bw_pS (As := .ref b :: As) hP hK hN).2⟩
/-- one that writes: its cells are apart -/
abbrev bw_Wr (D : va_G) (tys : List (ClassId × FieldType)) (ws : va_W) (sz : Nat) (As : List Value) : Array Value → State → Prop := va_Pc As (fun U => U.heap.size = sz ∧ va_P D vwCl ws U.heap ∧ va_K D vwCl tys U ∧ bw_nx U ∧ va_D (fun _ => True) ws)
theorem bw_qS {A : Nat → Prop} (hP : va_P D vwCl ws H) (hK : va_K D vwCl tys s) (hN : bw_nx s) (hD : va_D A ws) : PreS s H (bw_Wr D tys ws H.size As) As :=
  ⟨fun a U g mk q => ⟨q.1, q.2.1, q.2.2.1, va_K.moved (u := U) (U := U.calling g mk a) (Vm.Alike.refl U.vm) q.2.2.2.1, bw_nx.call q.2.2.2.2.1, q.2.2.2.2.2⟩, fun U hU hW => ⟨rfl, by rw [hU], by rw [hU]; exact hP, va_K.moved hW.alike hK, bw_nx.warm hW hN, hD.weaken (fun _ _ _ _ => trivial)⟩⟩
theorem bw_qV {A : Nat → Prop} {b ci q0 : Nat} {r : vw_C} {fs : List Value} (hP : va_P D vwCl ws H) (hK : va_K D vwCl tys s) (hN : bw_nx s) (hD : va_D A ws) (hc : vwCl[ci]? = some r) (he : ws[q0]? = some (b, .inr (ci, fs))) : PreV s H r.1 b (bw_Wr D tys ws H.size (.ref b :: As)) As :=
  ⟨(bw_qS hP hK hN hD).1, va_recv hK hP hc he, (bw_qS (As := .ref b :: As) hP hK hN hD).2⟩
end BWP
theorem bw_blk (b : Int32) : (∃ k, k < 40 ∧ b = nI k) ∨ (∀ k, k < 40 → ¬ b = nI k) := by
  by_cases h : ∃ k, k < 40 ∧ b = nI k
  · exact Or.inl h
  · exact Or.inr fun k hk e => h ⟨k, hk, e⟩
theorem bw_hasT {x : Int64} {k : Nat} (hk : k < 64) (h : ¬ (x &&& bw_b k) = 0) : bw_m x k = true := by
  cases hx : bw_m x k with
  | true => rfl
  | false => exact absurd ((bw_has hk).mpr hx) h
theorem bw_F_t {c : Nat → Bool} {g : Nat → Int64} {z : Int64} {n : Nat} (h : c n = true) : bw_F c g z (n + 1) = bw_F c g z n ||| g n := if_pos h
theorem bw_F_f {c : Nat → Bool} {g : Nat → Int64} {z : Int64} {n : Nat} (h : c n = false) : bw_F c g z (n + 1) = bw_F c g z n := if_neg (by rw [h]; simp)
theorem bw_A_t {c : Nat → Bool} {g : Nat → Int64} {z : Int64} {n : Nat} (h : c n = true) : bw_A c g z (n + 1) = bw_A c g z n &&& g n := if_pos h
theorem bw_A_f {c : Nat → Bool} {g : Nat → Int64} {z : Int64} {n : Nat} (h : c n = false) : bw_A c g z (n + 1) = bw_A c g z n := if_neg (by rw [h]; simp)
theorem bw_N_t {c : Nat → Bool} {n : Nat} (h : c n = true) : bw_N c (n + 1) = bw_N c n + 1 := if_pos h
theorem bw_N_f {c : Nat → Bool} {n : Nat} (h : c n = false) : bw_N c (n + 1) = bw_N c n := if_neg (by rw [h]; simp)
