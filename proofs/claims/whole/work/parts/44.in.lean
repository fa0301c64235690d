/-! what inner's contracts start with -/
abbrev wsL_inner : List Cond := .codeWith yL_inner cL_inner 4 (some .int) [(0, 9, 12, 13)] :: bwB
theorem gn_L_inner : ∀ x ∈ wsL_inner, x ∈ bwB := bw_gt_ (bw_in 255 (by rfl) (by rfl)) bw_gb
section BWI
variable {s : State} {H : Heap} {D : va_G} {tys : List (ClassId × FieldType)} {ws : va_W} {As : List Value}
/-- one that writes, and may throw -/
abbrev bw_Wt (D : va_G) (tys : List (ClassId × FieldType)) (ws : va_W) (sz : Nat) (As : List Value) : Array Value → State → Prop := va_Pc As (fun U => U.heap.size = sz ∧ va_P D vwCl ws U.heap ∧ va_K D vwCl tys U ∧ bw_nx U ∧ va_D (fun _ => True) ws ∧ bw_th U)
theorem bw_qSt {A : Nat → Prop} (hP : va_P D vwCl ws H) (hK : va_K D vwCl tys s) (hN : bw_nx s) (hD : va_D A ws) (hth : ∀ U : State, U.heap = H → s.WarmedH U.vm → bw_th U) : PreS s H (bw_Wt D tys ws H.size As) As :=
  ⟨fun a U g mk q => ⟨q.1, q.2.1, q.2.2.1, va_K.moved (u := U) (U := U.calling g mk a) (Vm.Alike.refl U.vm) q.2.2.2.1, bw_nx.call q.2.2.2.2.1, q.2.2.2.2.2.1, bw_th.call q.2.2.2.2.2.2⟩, fun U hU hW => ⟨rfl, by rw [hU], by rw [hU]; exact hP, va_K.moved hW.alike hK, bw_nx.warm hW hN, hD.weaken (fun _ _ _ _ => trivial), hth U hU hW⟩⟩
theorem bw_qVt {A : Nat → Prop} {b ci q0 : Nat} {r : vw_C} {fs : List Value} (hP : va_P D vwCl ws H) (hK : va_K D vwCl tys s) (hN : bw_nx s) (hD : va_D A ws) (hth : ∀ U : State, U.heap = H → s.WarmedH U.vm → bw_th U) (hc : vwCl[ci]? = some r) (he : ws[q0]? = some (b, .inr (ci, fs))) : PreV s H r.1 b (bw_Wt D tys ws H.size (.ref b :: As)) As :=
  ⟨(bw_qSt hP hK hN hD hth).1, va_recv hK hP hc he, (bw_qSt (As := .ref b :: As) hP hK hN hD hth).2⟩
end BWI
theorem bw_jn1 {bl : Nat → Int64} {k j : Nat} (h : bw_sm bl k 40 = some j) : ¬ nI j = -1 := fun z => by
  have h1 := bw_sm_lt h
  have h2 := congrArg Int32.toInt z
  rw [nI_toInt (by omega)] at h2
  have h3 : (-1 : Int32).toInt = -1 := by decide
  rw [h3] at h2
  omega
/-- the law's words and the two of the start -/
theorem bw_th_law {b : Nat} {s U : State} {A : Nat → Prop} {H : Heap} {locs : List Loc} (hts : ∀ w ∈ lw_tbl, w.before #[Value.ref b] s = true) (hgv : (Jvm.Cond.and given_1 narrow_1).before #[Value.ref b] s = true) (hA2 : ∀ q : Nat, A q → s.heap.size ≤ q) (hS : va_S A s.heap H locs) (hU : U.heap = H) (hW : s.WarmedH U.vm) : bw_th U := by
  have hs := flat_of_before _ hgv
  refine ⟨s, #[Value.ref b], fun w hw => ?_, ?_, hW, fun q hq => ?_⟩
  · have h1 := List.all_eq_true.mp bw_xin w hw
    rw [Bool.or_eq_true, decide_eq_true_eq] at h1
    rcases h1 with h1 | h1
    · have h2 : (bwX.all fun w => !bw_st w || decide (w ∈ flatC (Jvm.Cond.and given_1 narrow_1))) = true := by decide +kernel
      have h3 := List.all_eq_true.mp h2 w hw
      rw [h1] at h3
      exact hs w (by simpa using h3)
    · exact hts w h1
  · have h1 : (Cond.stringRef RB 128 bw_tx).before #[Value.ref b] s = true := hts _ (List.mem_of_getElem? (i := 305) (by rfl))
    have hcur : ∃ cur, s.vm.findClass RB = some cur := by
      have h2 := h1
      simp only [Cond.before, Cond.holds, Cond.value] at h2
      cases hc : s.vm.findClass RB with
      | none => simp [hc] at h2
      | some cur => exact ⟨cur, rfl⟩
    obtain ⟨cur, hcur⟩ := hcur
    obtain ⟨k, cf, i, a, -, -, -, -, -, he⟩ := Cond.stringRef_spec hcur h1
    exact ⟨a, vk_R.of h1 he⟩
  · rw [hU]
    exact hS.2.1 q hq (fun z => absurd (hA2 q z) (Nat.not_le.mpr hq))
/-- inner's two answers -/
theorem bw_inS {bl rd : Nat → Int64} {k j : Nat} {r tw : Int32} (h : bw_sm bl k 40 = some j) (e : bw_sm bl k 40 = bw_sm rd k 40) (h2 : bw_inP rd k r tw) : r = nI j ∧ tw = 0 := by
  rw [h] at e
  rcases h2 with ⟨z, -, -⟩ | ⟨j', z, z2, z3⟩
  · rw [z] at e; cases e
  · rw [z] at e; cases e; exact ⟨z2, z3⟩
theorem bw_inN {bl rd : Nat → Int64} {k : Nat} {r tw : Int32} (h : bw_sm bl k 40 = none) (e : bw_sm bl k 40 = bw_sm rd k 40) (h2 : bw_inP rd k r tw) : tw = 1 := by
  rw [h] at e
  rcases h2 with ⟨-, -, z⟩ | ⟨j', z, -, -⟩
  · exact z
  · rw [z] at e; cases e
