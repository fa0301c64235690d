set_option maxHeartbeats 4000000 in
set_option maxRecDepth 100000 in
theorem c_addStep (l : Launch) (dC : Nat → ClassId) (dI : Nat → Nat → Nat) (h a1 a2 : Nat) (cL : ClassId) (st gt : Nat → Int64) (cv : Int64) (b to : Nat) (hb9 : b < 40) (sz : Nat) : Met l yS_addStep wsS_addStep ({ frames := 1, cells := 0, slots := 0, locals := 20 } : Room) (bw_Wr (dC, dI) [(cL, .long)] [(h, .inr (1, [.ref a1, .ref a2, .long cv])), (a1, .inl (cL, 40, .inr (.inl st))), (a2, .inl (cL, 40, .inr (.inl gt)))] sz [.ref h, .int (nI b), .int (nI to)]) (va_Qv (S := Unit) (fun _ => True) (fun (_ : Unit) t => va_P (dC, dI) vwCl [(h, .inr (1, [.ref a1, .ref a2, .long cv])), (a1, .inl (cL, 40, .inr (.inl (vp_updL st b (st b ||| bw_b to))))), (a2, .inl (cL, 40, .inr (.inl gt)))] t.heap ∧ va_D (va_A [(h, .inr (1, [.ref a1, .ref a2, .long cv])), (a1, .inl (cL, 40, .inr (.inl st))), (a2, .inl (cL, 40, .inr (.inl gt)))] sz) [(h, .inr (1, [.ref a1, .ref a2, .long cv])), (a1, .inl (cL, 40, .inr (.inl (vp_updL st b (st b ||| bw_b to))))), (a2, .inl (cL, 40, .inr (.inl gt)))]) (va_A [(h, .inr (1, [.ref a1, .ref a2, .long cv])), (a1, .inl (cL, 40, .inr (.inl st))), (a2, .inl (cL, 40, .inr (.inl gt)))] sz)) 0 0 (va_A [(h, .inr (1, [.ref a1, .ref a2, .long cv])), (a1, .inl (cL, 40, .inr (.inl st))), (a2, .inl (cL, 40, .inr (.inl gt)))] sz) := by
  refine Met.ofW (cc := cS_addStep) (maxL := 3) (ret := none) (by decide) rfl ?_
  intro p e s m args below meth c s₁ B hml hv
  obtain ⟨rfl, hsz, hP, hK, hN, hD0⟩ := hv
  have hx := B.exec
  have hb := B.bytes
  have hr := B.returns
  have hts := atoms_spec (ws := wsS_addStep) B.pre
  have hT : ∀ w ∈ bwB, w.before _ s = true := fun w h => hts w (List.mem_cons_of_mem _ h)
  have hown : s.vm.findClass RS = some m.cls := findClass_of_methodNamed B.named
  have hlocks := B.notSynchronized
  subst hsz
  have hD := hD0.self (sz := s.heap.size)
  generalize hAe : va_A [(h, .inr (1, [.ref a1, .ref a2, .long cv])), (a1, .inl (cL, 40, .inr (.inl st))), (a2, .inl (cL, 40, .inr (.inl gt)))] s.heap.size = A at hD ⊢
  have hA : ∀ q : Nat, s.heap.size ≤ q → A q := fun q h => by rw [← hAe]; exact Or.inr h
  have hS : va_S A s.heap s.heap [] := va_S.rf
  have hP : va_P (dC, dI) vwCl [(h, .inr (1, [.ref a1, .ref a2, .long cv])), (a1, .inl (cL, 40, .inr (.inl st))), (a2, .inl (cL, 40, .inr (.inl gt)))] s.heap := hP
  have hl := lv_entry ([.ref h, .int (nI b), .int (nI to)]) (n := 3) (Nat.le_of_ble_eq_true rfl)
  rw [lg_entry_eq]
  generalize (lg_sl ([.ref h, .int (nI b), .int (nI to)]) ++ List.replicate (3 - (lg_sl ([.ref h, .int (nI b), .int (nI to)])).length) Slot.unset).toArray = ls at hl ⊢
  have hl : lv_has ls 3 [(0, .ref h), (1, .int (nI b)), (2, .int (nI to))] := hl
  refine lv_aload_n hx hb dS_addStep_0 rfl (lv_at hl 0 rfl) ?_
  refine va_get (D := (dC, dI)) (ci := 1) (v := .ref a1) (C := RS) (T := TS) (N := 3) hx hb hT inS hown hK hP 0 rfl rfl 0 (by decide) (hT _ hw_42) (fun _ h9 => h9) rfl dS_addStep_1 ?_
  refine lv_iload_n hx hb dS_addStep_4 rfl (lv_at hl 1 rfl) ?_
  refine lv_dup2_11 hx hb dS_addStep_5 rfl rfl ?_
  refine bw_lald hx hb hK hP 1 0 (k := b) rfl rfl (by omega) (by decide) dS_addStep_6 ?_
  refine lv_iload_n hx hb dS_addStep_7 rfl (lv_at hl 2 rfl) ?_
  refine vp_callSl (bw_C (va_runSN (As := [.int (nI to)]) (rest := [.long (st b), .int (nI b), .ref a1]) ⟨hx, hb, hml, hown, hT⟩ (c_bit l to) ⟨va_cnB 1 hT (bw_gi gn_B_bit) rfl rfl rfl hN.1 (hT _ hw_18) (by decide +kernel) ⟨Nat.le_of_ble_eq_true rfl, Nat.le_of_ble_eq_true rfl⟩, hT _ hw_97, trivial⟩ preEq rfl rfl hl.1 rfl (lv_room (Nat.le_of_ble_eq_true rfl)) dS_addStep_8 ⟨Nat.le_of_ble_eq_true rfl, Nat.le_of_ble_eq_true rfl⟩)) (fun r_1 hr_1 => ?_)
  rw [hr_1]; clear hr_1
  refine lv_lor hx hb dS_addStep_11 ?_
  refine bw_last hx hb hK hP hD hS 1 0 (k := b) rfl rfl (by omega) (by decide) dS_addStep_12 (fun H locs hP hD hS => ?_)
  have hP : va_P (dC, dI) vwCl [(h, .inr (1, [.ref a1, .ref a2, .long cv])), (a1, .inl (cL, 40, .inr (.inl (vp_updL st b ((st b) ||| (bw_b to)))))), (a2, .inl (cL, 40, .inr (.inl gt)))] H := hP
  have hD : va_D A [(h, .inr (1, [.ref a1, .ref a2, .long cv])), (a1, .inl (cL, 40, .inr (.inl (vp_updL st b ((st b) ||| (bw_b to)))))), (a2, .inl (cL, 40, .inr (.inl gt)))] := hD
  have hP9 := hP.sub (ws' := [(h, .inr (1, [.ref a1, .ref a2, .long cv])), (a1, .inl (cL, 40, .inr (.inl (vp_updL st b ((st b) ||| (bw_b to)))))), (a2, .inl (cL, 40, .inr (.inl gt)))]) [0, 1, 2] rfl
  have hD9 := hD.sub (ws' := [(h, .inr (1, [.ref a1, .ref a2, .long cv])), (a1, .inl (cL, 40, .inr (.inl (vp_updL st b ((st b) ||| (bw_b to)))))), (a2, .inl (cL, 40, .inr (.inl gt)))]) [0, 1, 2] (by decide) rfl
  exact W.vret hx hb hr (fun t9 ht9 hW9 => ⟨⟨(), rfl, trivial, by rw [ht9]; exact hP9, hD9⟩, hS.F ht9⟩) hS.2.2 dS_addStep_13
set_option maxHeartbeats 4000000 in
set_option maxRecDepth 100000 in
theorem c_removeStepsFrom (l : Launch) (dC : Nat → ClassId) (dI : Nat → Nat → Nat) (h a1 a2 : Nat) (cL : ClassId) (st gt : Nat → Int64) (cv : Int64) (b : Nat) (hb9 : b < 40) (sz : Nat) : Met l yS_removeStepsFrom wsS_removeStepsFrom ({ frames := 0, cells := 0, slots := 0, locals := 0 } : Room) (bw_Wr (dC, dI) [(cL, .long)] [(h, .inr (1, [.ref a1, .ref a2, .long cv])), (a1, .inl (cL, 40, .inr (.inl st))), (a2, .inl (cL, 40, .inr (.inl gt)))] sz [.ref h, .int (nI b)]) (va_Qv (S := Unit) (fun _ => True) (fun (_ : Unit) t => va_P (dC, dI) vwCl [(h, .inr (1, [.ref a1, .ref a2, .long cv])), (a1, .inl (cL, 40, .inr (.inl (vp_updL st b 0)))), (a2, .inl (cL, 40, .inr (.inl gt)))] t.heap ∧ va_D (va_A [(h, .inr (1, [.ref a1, .ref a2, .long cv])), (a1, .inl (cL, 40, .inr (.inl st))), (a2, .inl (cL, 40, .inr (.inl gt)))] sz) [(h, .inr (1, [.ref a1, .ref a2, .long cv])), (a1, .inl (cL, 40, .inr (.inl (vp_updL st b 0)))), (a2, .inl (cL, 40, .inr (.inl gt)))]) (va_A [(h, .inr (1, [.ref a1, .ref a2, .long cv])), (a1, .inl (cL, 40, .inr (.inl st))), (a2, .inl (cL, 40, .inr (.inl gt)))] sz)) 0 0 (va_A [(h, .inr (1, [.ref a1, .ref a2, .long cv])), (a1, .inl (cL, 40, .inr (.inl st))), (a2, .inl (cL, 40, .inr (.inl gt)))] sz) := by
  refine Met.ofW (cc := cS_removeStepsFrom) (maxL := 2) (ret := none) (by decide) rfl ?_
  intro p e s m args below meth c s₁ B hml hv
  obtain ⟨rfl, hsz, hP, hK, hN, hD0⟩ := hv
  have hx := B.exec
  have hb := B.bytes
  have hr := B.returns
  have hts := atoms_spec (ws := wsS_removeStepsFrom) B.pre
  have hT : ∀ w ∈ bwB, w.before _ s = true := fun w h => hts w (List.mem_cons_of_mem _ h)
  have hown : s.vm.findClass RS = some m.cls := findClass_of_methodNamed B.named
  have hlocks := B.notSynchronized
  subst hsz
  have hD := hD0.self (sz := s.heap.size)
  generalize hAe : va_A [(h, .inr (1, [.ref a1, .ref a2, .long cv])), (a1, .inl (cL, 40, .inr (.inl st))), (a2, .inl (cL, 40, .inr (.inl gt)))] s.heap.size = A at hD ⊢
  have hA : ∀ q : Nat, s.heap.size ≤ q → A q := fun q h => by rw [← hAe]; exact Or.inr h
  have hS : va_S A s.heap s.heap [] := va_S.rf
  have hP : va_P (dC, dI) vwCl [(h, .inr (1, [.ref a1, .ref a2, .long cv])), (a1, .inl (cL, 40, .inr (.inl st))), (a2, .inl (cL, 40, .inr (.inl gt)))] s.heap := hP
  have hl := lv_entry ([.ref h, .int (nI b)]) (n := 2) (Nat.le_of_ble_eq_true rfl)
  rw [lg_entry_eq]
  generalize (lg_sl ([.ref h, .int (nI b)]) ++ List.replicate (2 - (lg_sl ([.ref h, .int (nI b)])).length) Slot.unset).toArray = ls at hl ⊢
  have hl : lv_has ls 2 [(0, .ref h), (1, .int (nI b))] := hl
  refine lv_aload_n hx hb dS_removeStepsFrom_0 rfl (lv_at hl 0 rfl) ?_
  refine va_get (D := (dC, dI)) (ci := 1) (v := .ref a1) (C := RS) (T := TS) (N := 3) hx hb hT inS hown hK hP 0 rfl rfl 0 (by decide) (hT _ hw_42) (fun _ h9 => h9) rfl dS_removeStepsFrom_1 ?_
  refine lv_iload_n hx hb dS_removeStepsFrom_4 rfl (lv_at hl 1 rfl) ?_
  refine lv_lconst (v := 0) hx hb dS_removeStepsFrom_5 (by decide) ?_
  refine bw_last hx hb hK hP hD hS 1 0 (k := b) rfl rfl (by omega) (by decide) dS_removeStepsFrom_6 (fun H locs hP hD hS => ?_)
  have hP : va_P (dC, dI) vwCl [(h, .inr (1, [.ref a1, .ref a2, .long cv])), (a1, .inl (cL, 40, .inr (.inl (vp_updL st b 0)))), (a2, .inl (cL, 40, .inr (.inl gt)))] H := hP
  have hD : va_D A [(h, .inr (1, [.ref a1, .ref a2, .long cv])), (a1, .inl (cL, 40, .inr (.inl (vp_updL st b 0)))), (a2, .inl (cL, 40, .inr (.inl gt)))] := hD
  have hP9 := hP.sub (ws' := [(h, .inr (1, [.ref a1, .ref a2, .long cv])), (a1, .inl (cL, 40, .inr (.inl (vp_updL st b 0)))), (a2, .inl (cL, 40, .inr (.inl gt)))]) [0, 1, 2] rfl
  have hD9 := hD.sub (ws' := [(h, .inr (1, [.ref a1, .ref a2, .long cv])), (a1, .inl (cL, 40, .inr (.inl (vp_updL st b 0)))), (a2, .inl (cL, 40, .inr (.inl gt)))]) [0, 1, 2] (by decide) rfl
  exact W.vret hx hb hr (fun t9 ht9 hW9 => ⟨⟨(), rfl, trivial, by rw [ht9]; exact hP9, hD9⟩, hS.F ht9⟩) hS.2.2 dS_removeStepsFrom_7
set_option maxHeartbeats 4000000 in
set_option maxRecDepth 100000 in
theorem c_removeStepsTo (l : Launch) (dC : Nat → ClassId) (dI : Nat → Nat → Nat) (h a1 a2 : Nat) (cL : ClassId) (st gt : Nat → Int64) (cv : Int64) (b : Nat) (hb9 : b < 40) (sz : Nat) : Met l yS_removeStepsTo wsS_removeStepsTo ({ frames := 1, cells := 0, slots := 0, locals := 20 } : Room) (bw_Wr (dC, dI) [(cL, .long)] [(h, .inr (1, [.ref a1, .ref a2, .long cv])), (a1, .inl (cL, 40, .inr (.inl st))), (a2, .inl (cL, 40, .inr (.inl gt)))] sz [.ref h, .int (nI b)]) (va_Qv (S := Unit) (fun _ => True) (fun (_ : Unit) t => va_P (dC, dI) vwCl [(h, .inr (1, [.ref a1, .ref a2, .long cv])), (a1, .inl (cL, 40, .inr (.inl (bw_out st b 40)))), (a2, .inl (cL, 40, .inr (.inl gt)))] t.heap ∧ va_D (va_A [(h, .inr (1, [.ref a1, .ref a2, .long cv])), (a1, .inl (cL, 40, .inr (.inl st))), (a2, .inl (cL, 40, .inr (.inl gt)))] sz) [(h, .inr (1, [.ref a1, .ref a2, .long cv])), (a1, .inl (cL, 40, .inr (.inl (bw_out st b 40)))), (a2, .inl (cL, 40, .inr (.inl gt)))]) (va_A [(h, .inr (1, [.ref a1, .ref a2, .long cv])), (a1, .inl (cL, 40, .inr (.inl st))), (a2, .inl (cL, 40, .inr (.inl gt)))] sz)) 0 0 (va_A [(h, .inr (1, [.ref a1, .ref a2, .long cv])), (a1, .inl (cL, 40, .inr (.inl st))), (a2, .inl (cL, 40, .inr (.inl gt)))] sz) := by
  refine Met.ofW (cc := cS_removeStepsTo) (maxL := 3) (ret := none) (by decide) rfl ?_
  intro p e s m args below meth c s₁ B hml hv
  obtain ⟨rfl, hsz, hP, hK, hN, hD0⟩ := hv
  have hx := B.exec
  have hb := B.bytes
  have hr := B.returns
  have hts := atoms_spec (ws := wsS_removeStepsTo) B.pre
  have hT : ∀ w ∈ bwB, w.before _ s = true := fun w h => hts w (List.mem_cons_of_mem _ h)
  have hown : s.vm.findClass RS = some m.cls := findClass_of_methodNamed B.named
  have hlocks := B.notSynchronized
  subst hsz
  have hD := hD0.self (sz := s.heap.size)
  generalize hAe : va_A [(h, .inr (1, [.ref a1, .ref a2, .long cv])), (a1, .inl (cL, 40, .inr (.inl st))), (a2, .inl (cL, 40, .inr (.inl gt)))] s.heap.size = A at hD ⊢
  have hA : ∀ q : Nat, s.heap.size ≤ q → A q := fun q h => by rw [← hAe]; exact Or.inr h
  have hS : va_S A s.heap s.heap [] := va_S.rf
  have hP : va_P (dC, dI) vwCl [(h, .inr (1, [.ref a1, .ref a2, .long cv])), (a1, .inl (cL, 40, .inr (.inl st))), (a2, .inl (cL, 40, .inr (.inl gt)))] s.heap := hP
  have hl := lv_entry ([.ref h, .int (nI b)]) (n := 3) (Nat.le_of_ble_eq_true rfl)
  rw [lg_entry_eq]
  generalize (lg_sl ([.ref h, .int (nI b)]) ++ List.replicate (3 - (lg_sl ([.ref h, .int (nI b)])).length) Slot.unset).toArray = ls at hl ⊢
  have hl : lv_has ls 3 [(0, .ref h), (1, .int (nI b))] := hl
  refine lv_iconst (v := nI 0) hx hb dS_removeStepsTo_0 (by decide) ?_
  refine lv_istore_n (lv' := [(2, .int (nI 0)), (0, .ref h), (1, .int (nI b))]) hx hb dS_removeStepsTo_1 rfl hl (by decide) rfl (fun ls hl => ?_)
  have loop_2 : ∀ (n_2 : Nat) (i : Nat) (g : Nat → Int64), i ≤ 40 → 40 < i + n_2 → g = bw_out st b i → ∀ (H : Heap) (locs : List Loc), va_P (dC, dI) vwCl [(h, .inr (1, [.ref a1, .ref a2, .long cv])), (a1, .inl (cL, 40, .inr (.inl g))), (a2, .inl (cL, 40, .inr (.inl gt)))] H → va_D A [(h, .inr (1, [.ref a1, .ref a2, .long cv])), (a1, .inl (cL, 40, .inr (.inl g))), (a2, .inl (cL, 40, .inr (.inl gt)))] → va_S A s.heap H locs → ∀ (ls : Array Slot), lv_has ls 3 [(0, .ref h), (1, .int (nI b)), (2, .int (nI i))] → W p l e (headSpec wsS_removeStepsTo ({ frames := 1, cells := 0, slots := 0, locals := 20 } : Room)).room s m ([.ref h, .int (nI b)] : List Value).toArray below meth c H locs 0 0 (MQ below (va_Qv (S := Unit) (fun _ => True) (fun (_ : Unit) t => va_P (dC, dI) vwCl [(h, .inr (1, [.ref a1, .ref a2, .long cv])), (a1, .inl (cL, 40, .inr (.inl (bw_out st b 40)))), (a2, .inl (cL, 40, .inr (.inl gt)))] t.heap ∧ va_D A [(h, .inr (1, [.ref a1, .ref a2, .long cv])), (a1, .inl (cL, 40, .inr (.inl (bw_out st b 40)))), (a2, .inl (cL, 40, .inr (.inl gt)))]) A) ([.ref h, .int (nI b)] : List Value).toArray s 0 0 A) (F0 m 2 ls []) := by
    intro n_2
    induction n_2 with
    | zero => intro i g hii hfi eg; exfalso; omega
    | succ n_2 ih_2 =>
      intro i g hii hfi eg H locs hP hD hS ls hl
      refine lv_iload_n hx hb dS_removeStepsTo_2 rfl (lv_at hl 2 rfl) ?_
      refine lv_bipush (v := nI 40) hx hb dS_removeStepsTo_3 (by decide) ?_
      refine lv_icmp_ge (tgt := 31) hx hb dS_removeStepsTo_5 (by decide) (fun c_1 => ?_) (fun c_1 => ?_)
      · skip
        have c_1 : 40 ≤ i := (nI_leI (a := 40) (b := i) (by omega) (by omega)).mp c_1
        have e40 : i = 40 := by omega
        subst e40
        subst eg
        have hP9 := hP.sub (ws' := [(h, .inr (1, [.ref a1, .ref a2, .long cv])), (a1, .inl (cL, 40, .inr (.inl (bw_out st b 40)))), (a2, .inl (cL, 40, .inr (.inl gt)))]) [0, 1, 2] rfl
        have hD9 := hD.sub (ws' := [(h, .inr (1, [.ref a1, .ref a2, .long cv])), (a1, .inl (cL, 40, .inr (.inl (bw_out st b 40)))), (a2, .inl (cL, 40, .inr (.inl gt)))]) [0, 1, 2] (by decide) rfl
        exact W.vret hx hb hr (fun t9 ht9 hW9 => ⟨⟨(), rfl, trivial, by rw [ht9]; exact hP9, hD9⟩, hS.F ht9⟩) hS.2.2 dS_removeStepsTo_31
      · skip
        have c_1 : ¬ 40 ≤ i := fun z => c_1 ((nI_leI (a := 40) (b := i) (by omega) (by omega)).mpr z)
        refine lv_aload_n hx hb dS_removeStepsTo_8 rfl (lv_at hl 0 rfl) ?_
        refine va_get (D := (dC, dI)) (ci := 1) (v := .ref a1) (C := RS) (T := TS) (N := 3) hx hb hT inS hown hK hP 0 rfl rfl 0 (by decide) (hT _ hw_42) (fun _ h9 => h9) rfl dS_removeStepsTo_9 ?_
        refine lv_iload_n hx hb dS_removeStepsTo_12 rfl (lv_at hl 2 rfl) ?_
        refine lv_dup2_11 hx hb dS_removeStepsTo_13 rfl rfl ?_
        refine bw_lald hx hb hK hP 1 0 (k := i) rfl rfl (by omega) (by decide) dS_removeStepsTo_14 ?_
        refine lv_iload_n hx hb dS_removeStepsTo_15 rfl (lv_at hl 1 rfl) ?_
        refine vp_callSl (bw_C (va_runSN (As := [.int (nI b)]) (rest := [.long (g i), .int (nI i), .ref a1]) ⟨hx, hb, hml, hown, hT⟩ (c_bit l b) ⟨va_cnB 1 hT (bw_gi gn_B_bit) rfl rfl rfl hN.1 (hT _ hw_18) (by decide +kernel) ⟨Nat.le_of_ble_eq_true rfl, Nat.le_of_ble_eq_true rfl⟩, hT _ hw_97, trivial⟩ preEq rfl rfl hl.1 rfl (lv_room (Nat.le_of_ble_eq_true rfl)) dS_removeStepsTo_16 ⟨Nat.le_of_ble_eq_true rfl, Nat.le_of_ble_eq_true rfl⟩)) (fun r_2 hr_2 => ?_)
        rw [hr_2]; clear hr_2
        refine lv_ldc2 (v := (-1)) hx hb hown (hT _ hw_129) dS_removeStepsTo_19 ?_
        refine lv_lxor hx hb dS_removeStepsTo_22 ?_
        refine lv_land hx hb dS_removeStepsTo_23 ?_
        refine bw_last hx hb hK hP hD hS 1 0 (k := i) rfl rfl (by omega) (by decide) dS_removeStepsTo_24 (fun H locs hP hD hS => ?_)
        have hP : va_P (dC, dI) vwCl [(h, .inr (1, [.ref a1, .ref a2, .long cv])), (a1, .inl (cL, 40, .inr (.inl (vp_updL g i ((g i) &&& ((bw_b b) ^^^ (-1))))))), (a2, .inl (cL, 40, .inr (.inl gt)))] H := hP
        have hD : va_D A [(h, .inr (1, [.ref a1, .ref a2, .long cv])), (a1, .inl (cL, 40, .inr (.inl (vp_updL g i ((g i) &&& ((bw_b b) ^^^ (-1))))))), (a2, .inl (cL, 40, .inr (.inl gt)))] := hD
        refine lv_iinc (v := nI (i + 1)) (lv' := [(2, .int (nI (i + 1))), (0, .ref h), (1, .int (nI b))]) hx hb dS_removeStepsTo_25 hl (k := 2) rfl (nI_1 _) (by decide) rfl (fun ls hl => ?_)
        refine lv_goto (tgt := 2) hx hb dS_removeStepsTo_28 (by decide) ?_
        exact ih_2 (i + 1) (vp_updL g i ((g i) &&& ((bw_b b) ^^^ (-1)))) (by omega) (by omega) (by rw [eg]; exact bw_out_s st b i) H locs hP hD hS ls (lv_sub hl [1, 2, 0] rfl)
  exact loop_2 41 0 st (by omega) (by omega) ((bw_out_0 st b).symm) s.heap [] hP hD hS ls (lv_sub hl [1, 2, 0] rfl)
set_option maxHeartbeats 4000000 in
set_option maxRecDepth 100000 in
theorem c_renewS (l : Launch) (dC : Nat → ClassId) (dI : Nat → Nat → Nat) (h a1 a2 : Nat) (cL : ClassId) (st gt : Nat → Int64) (cv : Int64) (fi al : Int64) (sz : Nat) : Met l yS_renew wsS_renew ({ frames := 3, cells := 0, slots := 0, locals := 75 } : Room) (bw_Wr (dC, dI) [(cL, .long)] [(h, .inr (1, [.ref a1, .ref a2, .long cv])), (a1, .inl (cL, 40, .inr (.inl st))), (a2, .inl (cL, 40, .inr (.inl gt)))] sz [.ref h, .long fi, .long al]) (va_Qv (S := Unit) (fun _ => True) (fun (_ : Unit) t => va_P (dC, dI) vwCl [(h, .inr (1, [.ref a1, .ref a2, .long (bw_flood st fi al)])), (a1, .inl (cL, 40, .inr (.inl st))), (a2, .inl (cL, 40, .inr (.inl (bw_up (bw_gt st fi (bw_flood st fi al)) gt 40))))] t.heap ∧ va_D (va_A [(h, .inr (1, [.ref a1, .ref a2, .long cv])), (a1, .inl (cL, 40, .inr (.inl st))), (a2, .inl (cL, 40, .inr (.inl gt)))] sz) [(h, .inr (1, [.ref a1, .ref a2, .long (bw_flood st fi al)])), (a1, .inl (cL, 40, .inr (.inl st))), (a2, .inl (cL, 40, .inr (.inl (bw_up (bw_gt st fi (bw_flood st fi al)) gt 40))))]) (va_A [(h, .inr (1, [.ref a1, .ref a2, .long cv])), (a1, .inl (cL, 40, .inr (.inl st))), (a2, .inl (cL, 40, .inr (.inl gt)))] sz)) 0 0 (va_A [(h, .inr (1, [.ref a1, .ref a2, .long cv])), (a1, .inl (cL, 40, .inr (.inl st))), (a2, .inl (cL, 40, .inr (.inl gt)))] sz) := by
  refine Met.ofW (cc := cS_renew) (maxL := 6) (ret := none) (by decide) rfl ?_
  intro p e s m args below meth c s₁ B hml hv
  obtain ⟨rfl, hsz, hP, hK, hN, hD0⟩ := hv
  have hx := B.exec
  have hb := B.bytes
  have hr := B.returns
  have hts := atoms_spec (ws := wsS_renew) B.pre
  have hT : ∀ w ∈ bwB, w.before _ s = true := fun w h => hts w (List.mem_cons_of_mem _ h)
  have hown : s.vm.findClass RS = some m.cls := findClass_of_methodNamed B.named
  have hlocks := B.notSynchronized
  subst hsz
  have hD := hD0.self (sz := s.heap.size)
  generalize hAe : va_A [(h, .inr (1, [.ref a1, .ref a2, .long cv])), (a1, .inl (cL, 40, .inr (.inl st))), (a2, .inl (cL, 40, .inr (.inl gt)))] s.heap.size = A at hD ⊢
  have hA : ∀ q : Nat, s.heap.size ≤ q → A q := fun q h => by rw [← hAe]; exact Or.inr h
  have hS : va_S A s.heap s.heap [] := va_S.rf
  have hP : va_P (dC, dI) vwCl [(h, .inr (1, [.ref a1, .ref a2, .long cv])), (a1, .inl (cL, 40, .inr (.inl st))), (a2, .inl (cL, 40, .inr (.inl gt)))] s.heap := hP
  have hl := lv_entry ([.ref h, .long fi, .long al]) (n := 6) (Nat.le_of_ble_eq_true rfl)
  rw [lg_entry_eq]
  generalize (lg_sl ([.ref h, .long fi, .long al]) ++ List.replicate (6 - (lg_sl ([.ref h, .long fi, .long al])).length) Slot.unset).toArray = ls at hl ⊢
  have hl : lv_has ls 6 [(0, .ref h), (1, .long fi), (3, .long al)] := hl
  refine lv_aload_n hx hb dS_renew_0 rfl (lv_at hl 0 rfl) ?_
  refine lv_aload_n hx hb dS_renew_1 rfl (lv_at hl 0 rfl) ?_
  refine lv_lload_n hx hb dS_renew_2 rfl (lv_at hl 1 rfl) ?_
  refine lv_lload_n hx hb dS_renew_3 rfl (lv_at hl 2 rfl) ?_
  have hPc := hP
  have hKc := hK
  refine vp_callSl (W.runV (As := [.long fi, .long al]) (rest := [.ref h]) ⟨hx, hb, hml, hown, hT⟩ (c_flood l dC dI h a1 a2 cL st gt cv fi al) (cwV 2 hT g_S_28 rfl rfl rfl (by decide +kernel) ⟨Nat.le_of_ble_eq_true rfl, Nat.le_of_ble_eq_true rfl⟩) (bw_pV hPc hKc hN (ci := 1) (q0 := 0) rfl rfl) rfl rfl hl.1 rfl (lv_room (Nat.le_of_ble_eq_true rfl)) dS_renew_4 ⟨Nat.le_of_ble_eq_true rfl, Nat.le_of_ble_eq_true rfl⟩) (fun r_1 hr_1 => ?_)
  rw [hr_1]; clear hr_1
  refine va_put (D := (dC, dI)) (ci := 1) (v := .long (bw_flood st fi al)) (ty := .long) (C := RS) (T := TS) (N := 3) hx hb hT inS tyS tokS nmS hown hK hP hD hS 0 rfl rfl 2 (by decide) (hT _ hw_44) (fun _ h9 => h9) rfl (by decide +kernel) rfl rfl (Nat.le_of_ble_eq_true rfl) dS_renew_7 (fun H locs hP hD hS => ?_)
  have hP : va_P (dC, dI) vwCl [(h, .inr (1, [.ref a1, .ref a2, .long (bw_flood st fi al)])), (a1, .inl (cL, 40, .inr (.inl st))), (a2, .inl (cL, 40, .inr (.inl gt)))] H := hP
  have hD : va_D A [(h, .inr (1, [.ref a1, .ref a2, .long (bw_flood st fi al)])), (a1, .inl (cL, 40, .inr (.inl st))), (a2, .inl (cL, 40, .inr (.inl gt)))] := hD
  refine lv_iconst (v := nI 0) hx hb dS_renew_10 (by decide) ?_
  refine lv_istore (lv' := [(5, .int (nI 0)), (0, .ref h), (1, .long fi), (3, .long al)]) hx hb dS_renew_11 hl (by decide) rfl (fun ls hl => ?_)
  have loop_13 : ∀ (n_13 : Nat) (i : Nat) (g : Nat → Int64), i ≤ 40 → 40 < i + n_13 → g = bw_up (bw_gt st fi (bw_flood st fi al)) gt i → ∀ (H : Heap) (locs : List Loc), va_P (dC, dI) vwCl [(h, .inr (1, [.ref a1, .ref a2, .long (bw_flood st fi al)])), (a1, .inl (cL, 40, .inr (.inl st))), (a2, .inl (cL, 40, .inr (.inl g)))] H → va_D A [(h, .inr (1, [.ref a1, .ref a2, .long (bw_flood st fi al)])), (a1, .inl (cL, 40, .inr (.inl st))), (a2, .inl (cL, 40, .inr (.inl g)))] → va_S A s.heap H locs → ∀ (ls : Array Slot), lv_has ls 6 [(0, .ref h), (1, .long fi), (3, .long al), (5, .int (nI i))] → W p l e (headSpec wsS_renew ({ frames := 3, cells := 0, slots := 0, locals := 75 } : Room)).room s m ([.ref h, .long fi, .long al] : List Value).toArray below meth c H locs 0 0 (MQ below (va_Qv (S := Unit) (fun _ => True) (fun (_ : Unit) t => va_P (dC, dI) vwCl [(h, .inr (1, [.ref a1, .ref a2, .long (bw_flood st fi al)])), (a1, .inl (cL, 40, .inr (.inl st))), (a2, .inl (cL, 40, .inr (.inl (bw_up (bw_gt st fi (bw_flood st fi al)) gt 40))))] t.heap ∧ va_D A [(h, .inr (1, [.ref a1, .ref a2, .long (bw_flood st fi al)])), (a1, .inl (cL, 40, .inr (.inl st))), (a2, .inl (cL, 40, .inr (.inl (bw_up (bw_gt st fi (bw_flood st fi al)) gt 40))))]) A) ([.ref h, .long fi, .long al] : List Value).toArray s 0 0 A) (F0 m 13 ls []) := by
    intro n_13
    induction n_13 with
    | zero => intro i g hii hfi eg; exfalso; omega
    | succ n_13 ih_13 =>
      intro i g hii hfi eg H locs hP hD hS ls hl
      refine lv_iload hx hb dS_renew_13 (lv_at hl 3 rfl) ?_
      refine lv_bipush (v := nI 40) hx hb dS_renew_15 (by decide) ?_
      refine lv_icmp_ge (tgt := 77) hx hb dS_renew_17 (by decide) (fun c_2 => ?_) (fun c_2 => ?_)
      · skip
        have c_2 : 40 ≤ i := (nI_leI (a := 40) (b := i) (by omega) (by omega)).mp c_2
        have e40 : i = 40 := by omega
        subst e40
        subst eg
        have hP9 := hP.sub (ws' := [(h, .inr (1, [.ref a1, .ref a2, .long (bw_flood st fi al)])), (a1, .inl (cL, 40, .inr (.inl st))), (a2, .inl (cL, 40, .inr (.inl (bw_up (bw_gt st fi (bw_flood st fi al)) gt 40))))]) [0, 1, 2] rfl
        have hD9 := hD.sub (ws' := [(h, .inr (1, [.ref a1, .ref a2, .long (bw_flood st fi al)])), (a1, .inl (cL, 40, .inr (.inl st))), (a2, .inl (cL, 40, .inr (.inl (bw_up (bw_gt st fi (bw_flood st fi al)) gt 40))))]) [0, 1, 2] (by decide) rfl
        exact W.vret hx hb hr (fun t9 ht9 hW9 => ⟨⟨(), rfl, trivial, by rw [ht9]; exact hP9, hD9⟩, hS.F ht9⟩) hS.2.2 dS_renew_77
      · skip
        have c_2 : ¬ 40 ≤ i := fun z => c_2 ((nI_leI (a := 40) (b := i) (by omega) (by omega)).mpr z)
        refine lv_aload_n hx hb dS_renew_20 rfl (lv_at hl 0 rfl) ?_
        refine va_get (D := (dC, dI)) (ci := 1) (v := .ref a2) (C := RS) (T := TS) (N := 3) hx hb hT inS hown hK hP 0 rfl rfl 1 (by decide) (hT _ hw_43) (fun _ h9 => h9) rfl dS_renew_21 ?_
        refine lv_iload hx hb dS_renew_24 (lv_at hl 3 rfl) ?_
        refine lv_aload_n hx hb dS_renew_26 rfl (lv_at hl 0 rfl) ?_
        refine va_get (D := (dC, dI)) (ci := 1) (v := .long (bw_flood st fi al)) (C := RS) (T := TS) (N := 3) hx hb hT inS hown hK hP 0 rfl rfl 2 (by decide) (hT _ hw_44) (fun _ h9 => h9) rfl dS_renew_27 ?_
        refine lv_iload hx hb dS_renew_30 (lv_at hl 3 rfl) ?_
        refine vp_callSi (bw_C (va_runSN (As := [.long (bw_flood st fi al), .int (nI i)]) (rest := [.int (nI i), .ref a2]) ⟨hx, hb, hml, hown, hT⟩ (c_has l (bw_flood st fi al) i (by omega)) ⟨va_cnB 2 hT (bw_gi gn_B_has) rfl rfl rfl hN.2.2.1 (hT _ hw_18) (by decide +kernel) ⟨Nat.le_of_ble_eq_true rfl, Nat.le_of_ble_eq_true rfl⟩, hT _ hw_94, trivial⟩ preEq rfl rfl hl.1 rfl (lv_room (Nat.le_of_ble_eq_true rfl)) dS_renew_32 ⟨Nat.le_of_ble_eq_true rfl, Nat.le_of_ble_eq_true rfl⟩)) (fun r_3 hr_3 => ?_)
        rw [hr_3]; clear hr_3
        refine lv_if_eq (tgt := 69) hx hb dS_renew_35 (by decide) (fun c_4 => ?_) (fun c_4 => ?_)
        · skip
          have c_4 := bw_i0.mp c_4
          refine lv_lconst (v := 0) hx hb dS_renew_69 (by decide) ?_
          refine bw_last hx hb hK hP hD hS 2 0 (k := i) rfl rfl (by omega) (by decide) dS_renew_70 (fun H locs hP hD hS => ?_)
          have hP : va_P (dC, dI) vwCl [(h, .inr (1, [.ref a1, .ref a2, .long (bw_flood st fi al)])), (a1, .inl (cL, 40, .inr (.inl st))), (a2, .inl (cL, 40, .inr (.inl (vp_updL g i 0))))] H := hP
          have hD : va_D A [(h, .inr (1, [.ref a1, .ref a2, .long (bw_flood st fi al)])), (a1, .inl (cL, 40, .inr (.inl st))), (a2, .inl (cL, 40, .inr (.inl (vp_updL g i 0))))] := hD
          refine lv_iinc (v := nI (i + 1)) (lv' := [(5, .int (nI (i + 1))), (0, .ref h), (1, .long fi), (3, .long al)]) hx hb dS_renew_71 hl (k := 3) rfl (nI_1 _) (by decide) rfl (fun ls hl => ?_)
          refine lv_goto (tgt := 13) hx hb dS_renew_74 (by decide) ?_
          exact ih_13 (i + 1) (vp_updL g i 0) (by omega) (by omega) (by rw [eg]; refine bw_up_s _ gt i ?_; unfold bw_gt; first | (rw [if_pos c_4]; done) | (rw [if_neg (by rw [c_4]; simp)]; done)) H locs hP hD hS ls (lv_sub hl [1, 2, 3, 0] rfl)
        · skip
          have c_4 := bw_in0 c_4
          refine lv_aload_n hx hb dS_renew_38 rfl (lv_at hl 0 rfl) ?_
          refine va_get (D := (dC, dI)) (ci := 1) (v := .long (bw_flood st fi al)) (C := RS) (T := TS) (N := 3) hx hb hT inS hown hK hP 0 rfl rfl 2 (by decide) (hT _ hw_44) (fun _ h9 => h9) rfl dS_renew_39 ?_
          refine lv_aload_n hx hb dS_renew_42 rfl (lv_at hl 0 rfl) ?_
          refine lv_lload_n hx hb dS_renew_43 rfl (lv_at hl 1 rfl) ?_
          refine lv_aload_n hx hb dS_renew_44 rfl (lv_at hl 0 rfl) ?_
          refine va_get (D := (dC, dI)) (ci := 1) (v := .long (bw_flood st fi al)) (C := RS) (T := TS) (N := 3) hx hb hT inS hown hK hP 0 rfl rfl 2 (by decide) (hT _ hw_44) (fun _ h9 => h9) rfl dS_renew_45 ?_
          refine lv_iload hx hb dS_renew_48 (lv_at hl 3 rfl) ?_
          refine vp_callSl (bw_runSNk 9 1 (As := [.int (nI i)]) (rest := [.long (bw_flood st fi al), .long fi, .ref h, .long (bw_flood st fi al), .int (nI i), .ref a2]) ⟨hx, hb, hml, hown, hT⟩ (c_bit l i) (bw_gi gn_B_bit) rfl rfl rfl hN.1 (hT _ hw_18) (by decide +kernel) ⟨Nat.le_of_ble_eq_true rfl, Nat.le_of_ble_eq_true rfl⟩ (hT _ hw_97) preEq rfl rfl hl.1 rfl (bw_roomk (Nat.le_of_ble_eq_true rfl)) dS_renew_50 ⟨Nat.le_of_ble_eq_true rfl, Nat.le_of_ble_eq_true rfl⟩) (fun r_5 hr_5 => ?_)
          rw [hr_5]; clear hr_5
          refine lv_ldc2 (v := (-1)) hx hb hown (hT _ hw_129) dS_renew_53 ?_
          refine lv_lxor hx hb dS_renew_56 ?_
          refine lv_land hx hb dS_renew_57 ?_
          have hPc := hP
          have hKc := hK
          refine vp_callSl (W.runV (As := [.long fi, .long ((bw_flood st fi al) &&& ((bw_b i) ^^^ (-1)))]) (rest := [.long (bw_flood st fi al), .int (nI i), .ref a2]) ⟨hx, hb, hml, hown, hT⟩ (c_flood l dC dI h a1 a2 cL st g (bw_flood st fi al) fi ((bw_flood st fi al) &&& ((bw_b i) ^^^ (-1)))) (cwV 2 hT g_S_28 rfl rfl rfl (by decide +kernel) ⟨Nat.le_of_ble_eq_true rfl, Nat.le_of_ble_eq_true rfl⟩) (bw_pV hPc hKc hN (ci := 1) (q0 := 0) rfl rfl) rfl rfl hl.1 rfl (lv_room (Nat.le_of_ble_eq_true rfl)) dS_renew_58 ⟨Nat.le_of_ble_eq_true rfl, Nat.le_of_ble_eq_true rfl⟩) (fun r_6 hr_6 => ?_)
          rw [hr_6]; clear hr_6
          refine lv_ldc2 (v := (-1)) hx hb hown (hT _ hw_129) dS_renew_61 ?_
          refine lv_lxor hx hb dS_renew_64 ?_
          refine lv_land hx hb dS_renew_65 ?_
          refine lv_goto (tgt := 70) hx hb dS_renew_66 (by decide) ?_
          refine bw_last hx hb hK hP hD hS 2 0 (k := i) rfl rfl (by omega) (by decide) dS_renew_70 (fun H locs hP hD hS => ?_)
          have hP : va_P (dC, dI) vwCl [(h, .inr (1, [.ref a1, .ref a2, .long (bw_flood st fi al)])), (a1, .inl (cL, 40, .inr (.inl st))), (a2, .inl (cL, 40, .inr (.inl (vp_updL g i ((bw_flood st fi al) &&& ((bw_flood st fi ((bw_flood st fi al) &&& ((bw_b i) ^^^ (-1)))) ^^^ (-1)))))))] H := hP
          have hD : va_D A [(h, .inr (1, [.ref a1, .ref a2, .long (bw_flood st fi al)])), (a1, .inl (cL, 40, .inr (.inl st))), (a2, .inl (cL, 40, .inr (.inl (vp_updL g i ((bw_flood st fi al) &&& ((bw_flood st fi ((bw_flood st fi al) &&& ((bw_b i) ^^^ (-1)))) ^^^ (-1)))))))] := hD
          refine lv_iinc (v := nI (i + 1)) (lv' := [(5, .int (nI (i + 1))), (0, .ref h), (1, .long fi), (3, .long al)]) hx hb dS_renew_71 hl (k := 3) rfl (nI_1 _) (by decide) rfl (fun ls hl => ?_)
          refine lv_goto (tgt := 13) hx hb dS_renew_74 (by decide) ?_
          exact ih_13 (i + 1) (vp_updL g i ((bw_flood st fi al) &&& ((bw_flood st fi ((bw_flood st fi al) &&& ((bw_b i) ^^^ (-1)))) ^^^ (-1)))) (by omega) (by omega) (by rw [eg]; refine bw_up_s _ gt i ?_; unfold bw_gt; first | (rw [if_pos c_4]; done) | (rw [if_neg (by rw [c_4]; simp)]; done)) H locs hP hD hS ls (lv_sub hl [1, 2, 3, 0] rfl)
  exact loop_13 41 0 gt (by omega) (by omega) ((bw_up_0 _ gt).symm) H locs hP hD hS ls (lv_sub hl [1, 2, 3, 0] rfl)
set_option maxHeartbeats 4000000 in
set_option maxRecDepth 100000 in
theorem c_renewR (l : Launch) (dC : Nat → ClassId) (dI : Nat → Nat → Nat) (h a1 : Nat) (cL : ClassId) (bl : Nat → Int64) (o o1 o2 : Nat) (so go : Nat → Int64) (co : Int64) (q q1 q2 : Nat) (sb gb : Nat → Int64) (cb : Int64) (sz : Nat) : Met l yR_renew wsR_renew ({ frames := 3, cells := 0, slots := 0, locals := 74 } : Room) (bw_Wr (dC, dI) [(cL, .long)] [(h, .inr (0, [.ref a1])), (a1, .inl (cL, 40, .inr (.inl bl))), (o, .inr (1, [.ref o1, .ref o2, .long co])), (o1, .inl (cL, 40, .inr (.inl so))), (o2, .inl (cL, 40, .inr (.inl go))), (q, .inr (1, [.ref q1, .ref q2, .long cb])), (q1, .inl (cL, 40, .inr (.inl sb))), (q2, .inl (cL, 40, .inr (.inl gb)))] sz [.ref h, .ref o, .ref q]) (va_Qv (S := Unit) (fun _ => True) (fun (_ : Unit) t => va_P (dC, dI) vwCl [(h, .inr (0, [.ref a1])), (a1, .inl (cL, 40, .inr (.inl (bw_up (bw_bl sb go co) bl 40)))), (o, .inr (1, [.ref o1, .ref o2, .long co])), (o1, .inl (cL, 40, .inr (.inl so))), (o2, .inl (cL, 40, .inr (.inl go))), (q, .inr (1, [.ref q1, .ref q2, .long cb])), (q1, .inl (cL, 40, .inr (.inl sb))), (q2, .inl (cL, 40, .inr (.inl gb)))] t.heap ∧ va_D (va_A [(h, .inr (0, [.ref a1])), (a1, .inl (cL, 40, .inr (.inl bl))), (o, .inr (1, [.ref o1, .ref o2, .long co])), (o1, .inl (cL, 40, .inr (.inl so))), (o2, .inl (cL, 40, .inr (.inl go))), (q, .inr (1, [.ref q1, .ref q2, .long cb])), (q1, .inl (cL, 40, .inr (.inl sb))), (q2, .inl (cL, 40, .inr (.inl gb)))] sz) [(h, .inr (0, [.ref a1])), (a1, .inl (cL, 40, .inr (.inl (bw_up (bw_bl sb go co) bl 40)))), (o, .inr (1, [.ref o1, .ref o2, .long co])), (o1, .inl (cL, 40, .inr (.inl so))), (o2, .inl (cL, 40, .inr (.inl go))), (q, .inr (1, [.ref q1, .ref q2, .long cb])), (q1, .inl (cL, 40, .inr (.inl sb))), (q2, .inl (cL, 40, .inr (.inl gb)))]) (va_A [(h, .inr (0, [.ref a1])), (a1, .inl (cL, 40, .inr (.inl bl))), (o, .inr (1, [.ref o1, .ref o2, .long co])), (o1, .inl (cL, 40, .inr (.inl so))), (o2, .inl (cL, 40, .inr (.inl go))), (q, .inr (1, [.ref q1, .ref q2, .long cb])), (q1, .inl (cL, 40, .inr (.inl sb))), (q2, .inl (cL, 40, .inr (.inl gb)))] sz)) 0 0 (va_A [(h, .inr (0, [.ref a1])), (a1, .inl (cL, 40, .inr (.inl bl))), (o, .inr (1, [.ref o1, .ref o2, .long co])), (o1, .inl (cL, 40, .inr (.inl so))), (o2, .inl (cL, 40, .inr (.inl go))), (q, .inr (1, [.ref q1, .ref q2, .long cb])), (q1, .inl (cL, 40, .inr (.inl sb))), (q2, .inl (cL, 40, .inr (.inl gb)))] sz) := by
  refine Met.ofW (cc := cR_renew) (maxL := 8) (ret := none) (by decide) rfl ?_
  intro p e s m args below meth c s₁ B hml hv
  obtain ⟨rfl, hsz, hP, hK, hN, hD0⟩ := hv
  have hx := B.exec
  have hb := B.bytes
  have hr := B.returns
  have hts := atoms_spec (ws := wsR_renew) B.pre
  have hT : ∀ w ∈ bwB, w.before _ s = true := fun w h => hts w (List.mem_cons_of_mem _ h)
  have hown : s.vm.findClass RR = some m.cls := findClass_of_methodNamed B.named
  have hlocks := B.notSynchronized
  subst hsz
  have hD := hD0.self (sz := s.heap.size)
  generalize hAe : va_A [(h, .inr (0, [.ref a1])), (a1, .inl (cL, 40, .inr (.inl bl))), (o, .inr (1, [.ref o1, .ref o2, .long co])), (o1, .inl (cL, 40, .inr (.inl so))), (o2, .inl (cL, 40, .inr (.inl go))), (q, .inr (1, [.ref q1, .ref q2, .long cb])), (q1, .inl (cL, 40, .inr (.inl sb))), (q2, .inl (cL, 40, .inr (.inl gb)))] s.heap.size = A at hD ⊢
  have hA : ∀ q : Nat, s.heap.size ≤ q → A q := fun q h => by rw [← hAe]; exact Or.inr h
  have hS : va_S A s.heap s.heap [] := va_S.rf
  have hP : va_P (dC, dI) vwCl [(h, .inr (0, [.ref a1])), (a1, .inl (cL, 40, .inr (.inl bl))), (o, .inr (1, [.ref o1, .ref o2, .long co])), (o1, .inl (cL, 40, .inr (.inl so))), (o2, .inl (cL, 40, .inr (.inl go))), (q, .inr (1, [.ref q1, .ref q2, .long cb])), (q1, .inl (cL, 40, .inr (.inl sb))), (q2, .inl (cL, 40, .inr (.inl gb)))] s.heap := hP
  have hl := lv_entry ([.ref h, .ref o, .ref q]) (n := 8) (Nat.le_of_ble_eq_true rfl)
  rw [lg_entry_eq]
  generalize (lg_sl ([.ref h, .ref o, .ref q]) ++ List.replicate (8 - (lg_sl ([.ref h, .ref o, .ref q])).length) Slot.unset).toArray = ls at hl ⊢
  have hl : lv_has ls 8 [(0, .ref h), (1, .ref o), (2, .ref q)] := hl
  refine lv_iconst (v := nI 0) hx hb dR_renew_0 (by decide) ?_
  refine lv_istore_n (lv' := [(3, .int (nI 0)), (0, .ref h), (1, .ref o), (2, .ref q)]) hx hb dR_renew_1 rfl hl (by decide) rfl (fun ls hl => ?_)
  have loop_2 : ∀ (n_2 : Nat) (i : Nat) (g : Nat → Int64), i ≤ 40 → 40 < i + n_2 → g = bw_up (bw_bl sb go co) bl i → ∀ (H : Heap) (locs : List Loc), va_P (dC, dI) vwCl [(h, .inr (0, [.ref a1])), (a1, .inl (cL, 40, .inr (.inl g))), (o, .inr (1, [.ref o1, .ref o2, .long co])), (o1, .inl (cL, 40, .inr (.inl so))), (o2, .inl (cL, 40, .inr (.inl go))), (q, .inr (1, [.ref q1, .ref q2, .long cb])), (q1, .inl (cL, 40, .inr (.inl sb))), (q2, .inl (cL, 40, .inr (.inl gb)))] H → va_D A [(h, .inr (0, [.ref a1])), (a1, .inl (cL, 40, .inr (.inl g))), (o, .inr (1, [.ref o1, .ref o2, .long co])), (o1, .inl (cL, 40, .inr (.inl so))), (o2, .inl (cL, 40, .inr (.inl go))), (q, .inr (1, [.ref q1, .ref q2, .long cb])), (q1, .inl (cL, 40, .inr (.inl sb))), (q2, .inl (cL, 40, .inr (.inl gb)))] → va_S A s.heap H locs → ∀ (ls : Array Slot), lv_has ls 8 [(0, .ref h), (1, .ref o), (2, .ref q), (3, .int (nI i))] → W p l e (headSpec wsR_renew ({ frames := 3, cells := 0, slots := 0, locals := 74 } : Room)).room s m ([.ref h, .ref o, .ref q] : List Value).toArray below meth c H locs 0 0 (MQ below (va_Qv (S := Unit) (fun _ => True) (fun (_ : Unit) t => va_P (dC, dI) vwCl [(h, .inr (0, [.ref a1])), (a1, .inl (cL, 40, .inr (.inl (bw_up (bw_bl sb go co) bl 40)))), (o, .inr (1, [.ref o1, .ref o2, .long co])), (o1, .inl (cL, 40, .inr (.inl so))), (o2, .inl (cL, 40, .inr (.inl go))), (q, .inr (1, [.ref q1, .ref q2, .long cb])), (q1, .inl (cL, 40, .inr (.inl sb))), (q2, .inl (cL, 40, .inr (.inl gb)))] t.heap ∧ va_D A [(h, .inr (0, [.ref a1])), (a1, .inl (cL, 40, .inr (.inl (bw_up (bw_bl sb go co) bl 40)))), (o, .inr (1, [.ref o1, .ref o2, .long co])), (o1, .inl (cL, 40, .inr (.inl so))), (o2, .inl (cL, 40, .inr (.inl go))), (q, .inr (1, [.ref q1, .ref q2, .long cb])), (q1, .inl (cL, 40, .inr (.inl sb))), (q2, .inl (cL, 40, .inr (.inl gb)))]) A) ([.ref h, .ref o, .ref q] : List Value).toArray s 0 0 A) (F0 m 2 ls []) := by
    intro n_2
    induction n_2 with
    | zero => intro i g hii hfi eg; exfalso; omega
    | succ n_2 ih_2 =>
      intro i g hii hfi eg H locs hP hD hS ls hl
      refine lv_iload_n hx hb dR_renew_2 rfl (lv_at hl 3 rfl) ?_
      refine lv_bipush (v := nI 40) hx hb dR_renew_3 (by decide) ?_
      refine lv_icmp_ge (tgt := 72) hx hb dR_renew_5 (by decide) (fun c_1 => ?_) (fun c_1 => ?_)
      · skip
        have c_1 : 40 ≤ i := (nI_leI (a := 40) (b := i) (by omega) (by omega)).mp c_1
        have e40 : i = 40 := by omega
        subst e40
        subst eg
        have hP9 := hP.sub (ws' := [(h, .inr (0, [.ref a1])), (a1, .inl (cL, 40, .inr (.inl (bw_up (bw_bl sb go co) bl 40)))), (o, .inr (1, [.ref o1, .ref o2, .long co])), (o1, .inl (cL, 40, .inr (.inl so))), (o2, .inl (cL, 40, .inr (.inl go))), (q, .inr (1, [.ref q1, .ref q2, .long cb])), (q1, .inl (cL, 40, .inr (.inl sb))), (q2, .inl (cL, 40, .inr (.inl gb)))]) [0, 1, 2, 3, 4, 5, 6, 7] rfl
        have hD9 := hD.sub (ws' := [(h, .inr (0, [.ref a1])), (a1, .inl (cL, 40, .inr (.inl (bw_up (bw_bl sb go co) bl 40)))), (o, .inr (1, [.ref o1, .ref o2, .long co])), (o1, .inl (cL, 40, .inr (.inl so))), (o2, .inl (cL, 40, .inr (.inl go))), (q, .inr (1, [.ref q1, .ref q2, .long cb])), (q1, .inl (cL, 40, .inr (.inl sb))), (q2, .inl (cL, 40, .inr (.inl gb)))]) [0, 1, 2, 3, 4, 5, 6, 7] (by decide) rfl
        exact W.vret hx hb hr (fun t9 ht9 hW9 => ⟨⟨(), rfl, trivial, by rw [ht9]; exact hP9, hD9⟩, hS.F ht9⟩) hS.2.2 dR_renew_72
      · skip
        have c_1 : ¬ 40 ≤ i := fun z => c_1 ((nI_leI (a := 40) (b := i) (by omega) (by omega)).mpr z)
        refine lv_aload_n hx hb dR_renew_8 rfl (lv_at hl 2 rfl) ?_
        refine lv_iload_n hx hb dR_renew_9 rfl (lv_at hl 3 rfl) ?_
        have hPc := hP.sub (ws' := [(q, .inr (1, [.ref q1, .ref q2, .long cb])), (q1, .inl (cL, 40, .inr (.inl sb))), (q2, .inl (cL, 40, .inr (.inl gb)))]) [5, 6, 7] rfl
        have hKc := hK
        refine vp_callSl (W.runV (As := [.int (nI i)]) (rest := []) ⟨hx, hb, hml, hown, hT⟩ (c_stepsOf l dC dI q q1 q2 cL sb gb cb i (by omega)) (cwV 1 hT g_R_15 rfl rfl rfl (by decide +kernel) ⟨Nat.le_of_ble_eq_true rfl, Nat.le_of_ble_eq_true rfl⟩) (bw_pV hPc hKc hN (ci := 1) (q0 := 0) rfl rfl) rfl rfl hl.1 rfl (lv_room (Nat.le_of_ble_eq_true rfl)) dR_renew_10 ⟨Nat.le_of_ble_eq_true rfl, Nat.le_of_ble_eq_true rfl⟩) (fun r_2 hr_2 => ?_)
        rw [hr_2]; clear hr_2
        refine lv_aload_n hx hb dR_renew_13 rfl (lv_at hl 1 rfl) ?_
        refine lv_iload_n hx hb dR_renew_14 rfl (lv_at hl 3 rfl) ?_
        have hPc := hP.sub (ws' := [(o, .inr (1, [.ref o1, .ref o2, .long co])), (o1, .inl (cL, 40, .inr (.inl so))), (o2, .inl (cL, 40, .inr (.inl go)))]) [2, 3, 4] rfl
        have hKc := hK
        refine vp_callSl (W.runV (As := [.int (nI i)]) (rest := [.long (sb i)]) ⟨hx, hb, hml, hown, hT⟩ (c_gated l dC dI o o1 o2 cL so go co i (by omega)) (cwV 1 hT g_R_21 rfl rfl rfl (by decide +kernel) ⟨Nat.le_of_ble_eq_true rfl, Nat.le_of_ble_eq_true rfl⟩) (bw_pV hPc hKc hN (ci := 1) (q0 := 0) rfl rfl) rfl rfl hl.1 rfl (lv_room (Nat.le_of_ble_eq_true rfl)) dR_renew_15 ⟨Nat.le_of_ble_eq_true rfl, Nat.le_of_ble_eq_true rfl⟩) (fun r_3 hr_3 => ?_)
        rw [hr_3]; clear hr_3
        refine lv_land hx hb dR_renew_18 ?_
        refine lv_lstore (lv' := [(4, .long ((sb i) &&& (go i))), (0, .ref h), (1, .ref o), (2, .ref q), (3, .int (nI i))]) hx hb dR_renew_19 hl (by decide) rfl (fun ls hl => ?_)
        refine lv_aload_n hx hb dR_renew_21 rfl (lv_at hl 3 rfl) ?_
        refine lv_lload hx hb dR_renew_22 (lv_at hl 0 rfl) ?_
        refine lv_aload_n hx hb dR_renew_24 rfl (lv_at hl 2 rfl) ?_
        have hPc := hP.sub (ws' := [(o, .inr (1, [.ref o1, .ref o2, .long co])), (o1, .inl (cL, 40, .inr (.inl so))), (o2, .inl (cL, 40, .inr (.inl go)))]) [2, 3, 4] rfl
        have hKc := hK
        refine vp_callSl (W.runV (As := []) (rest := [.long ((sb i) &&& (go i)), .ref q]) ⟨hx, hb, hml, hown, hT⟩ (c_covered l dC dI o o1 o2 cL so go co) (cwV 0 hT g_R_24 rfl rfl rfl (by decide +kernel) ⟨Nat.le_of_ble_eq_true rfl, Nat.le_of_ble_eq_true rfl⟩) (bw_pV hPc hKc hN (ci := 1) (q0 := 0) rfl rfl) rfl rfl hl.1 rfl (lv_room (Nat.le_of_ble_eq_true rfl)) dR_renew_25 ⟨Nat.le_of_ble_eq_true rfl, Nat.le_of_ble_eq_true rfl⟩) (fun r_4 hr_4 => ?_)
        rw [hr_4]; clear hr_4
        refine lv_iload_n hx hb dR_renew_28 rfl (lv_at hl 4 rfl) ?_
        refine vp_callSl (bw_C (va_runSN (As := [.int (nI i)]) (rest := [.long co, .long ((sb i) &&& (go i)), .ref q]) ⟨hx, hb, hml, hown, hT⟩ (c_bit l i) ⟨va_cnB 1 hT (bw_gi gn_B_bit) rfl rfl rfl hN.2.2.2.1 (hT _ hw_18) (by decide +kernel) ⟨Nat.le_of_ble_eq_true rfl, Nat.le_of_ble_eq_true rfl⟩, hT _ hw_97, trivial⟩ preEq rfl rfl hl.1 rfl (lv_room (Nat.le_of_ble_eq_true rfl)) dR_renew_29 ⟨Nat.le_of_ble_eq_true rfl, Nat.le_of_ble_eq_true rfl⟩)) (fun r_5 hr_5 => ?_)
        rw [hr_5]; clear hr_5
        refine lv_ldc2 (v := (-1)) hx hb hown (hT _ hw_177) dR_renew_32 ?_
        refine lv_lxor hx hb dR_renew_35 ?_
        refine lv_land hx hb dR_renew_36 ?_
        have hPc := hP.sub (ws' := [(q, .inr (1, [.ref q1, .ref q2, .long cb])), (q1, .inl (cL, 40, .inr (.inl sb))), (q2, .inl (cL, 40, .inr (.inl gb)))]) [5, 6, 7] rfl
        have hKc := hK
        refine vp_callSl (W.runV (As := [.long ((sb i) &&& (go i)), .long (co &&& ((bw_b i) ^^^ (-1)))]) (rest := []) ⟨hx, hb, hml, hown, hT⟩ (c_flood l dC dI q q1 q2 cL sb gb cb ((sb i) &&& (go i)) (co &&& ((bw_b i) ^^^ (-1)))) (cwV 2 hT g_R_33 rfl rfl rfl (by decide +kernel) ⟨Nat.le_of_ble_eq_true rfl, Nat.le_of_ble_eq_true rfl⟩) (bw_pV hPc hKc hN (ci := 1) (q0 := 0) rfl rfl) rfl rfl hl.1 rfl (lv_room (Nat.le_of_ble_eq_true rfl)) dR_renew_37 ⟨Nat.le_of_ble_eq_true rfl, Nat.le_of_ble_eq_true rfl⟩) (fun r_6 hr_6 => ?_)
        rw [hr_6]; clear hr_6
        refine lv_lstore (lv' := [(6, .long (bw_flood sb ((sb i) &&& (go i)) (co &&& ((bw_b i) ^^^ (-1))))), (4, .long ((sb i) &&& (go i))), (0, .ref h), (1, .ref o), (2, .ref q), (3, .int (nI i))]) hx hb dR_renew_40 hl (by decide) rfl (fun ls hl => ?_)
        refine lv_aload_n hx hb dR_renew_42 rfl (lv_at hl 2 rfl) ?_
        refine va_get (D := (dC, dI)) (ci := 0) (v := .ref a1) (C := RR) (T := TR) (N := 1) hx hb hT inR hown hK hP 0 rfl rfl 0 (by decide) (hT _ hw_60) (fun _ h9 => h9) rfl dR_renew_43 ?_
        refine lv_iload_n hx hb dR_renew_46 rfl (lv_at hl 5 rfl) ?_
        refine lv_lload hx hb dR_renew_47 (lv_at hl 1 rfl) ?_
        refine lv_lconst (v := 0) hx hb dR_renew_49 (by decide) ?_
        refine W.lcmp hx hb dR_renew_50 ?_
        refine lv_if_ne (tgt := 58) hx hb dR_renew_51 (by decide) (fun c_7 => ?_) (fun c_7 => ?_)
        · skip
          have c_7 := fun z => c_7 (bw_cmp0.mpr z)
          refine lv_lload hx hb dR_renew_58 (lv_at hl 0 rfl) ?_
          refine lv_iload_n hx hb dR_renew_60 rfl (lv_at hl 5 rfl) ?_
          refine vp_callSl (bw_C (va_runSN (As := [.int (nI i)]) (rest := [.long (bw_flood sb ((sb i) &&& (go i)) (co &&& ((bw_b i) ^^^ (-1)))), .int (nI i), .ref a1]) ⟨hx, hb, hml, hown, hT⟩ (c_bit l i) ⟨va_cnB 1 hT (bw_gi gn_B_bit) rfl rfl rfl hN.2.2.2.1 (hT _ hw_18) (by decide +kernel) ⟨Nat.le_of_ble_eq_true rfl, Nat.le_of_ble_eq_true rfl⟩, hT _ hw_97, trivial⟩ preEq rfl rfl hl.1 rfl (lv_room (Nat.le_of_ble_eq_true rfl)) dR_renew_61 ⟨Nat.le_of_ble_eq_true rfl, Nat.le_of_ble_eq_true rfl⟩)) (fun r_8 hr_8 => ?_)
          rw [hr_8]; clear hr_8
          refine lv_lor hx hb dR_renew_64 ?_
          refine bw_last hx hb hK hP hD hS 1 0 (k := i) rfl rfl (by omega) (by decide) dR_renew_65 (fun H locs hP hD hS => ?_)
          have hP : va_P (dC, dI) vwCl [(h, .inr (0, [.ref a1])), (a1, .inl (cL, 40, .inr (.inl (vp_updL g i ((bw_flood sb ((sb i) &&& (go i)) (co &&& ((bw_b i) ^^^ (-1)))) ||| (bw_b i)))))), (o, .inr (1, [.ref o1, .ref o2, .long co])), (o1, .inl (cL, 40, .inr (.inl so))), (o2, .inl (cL, 40, .inr (.inl go))), (q, .inr (1, [.ref q1, .ref q2, .long cb])), (q1, .inl (cL, 40, .inr (.inl sb))), (q2, .inl (cL, 40, .inr (.inl gb)))] H := hP
          have hD : va_D A [(h, .inr (0, [.ref a1])), (a1, .inl (cL, 40, .inr (.inl (vp_updL g i ((bw_flood sb ((sb i) &&& (go i)) (co &&& ((bw_b i) ^^^ (-1)))) ||| (bw_b i)))))), (o, .inr (1, [.ref o1, .ref o2, .long co])), (o1, .inl (cL, 40, .inr (.inl so))), (o2, .inl (cL, 40, .inr (.inl go))), (q, .inr (1, [.ref q1, .ref q2, .long cb])), (q1, .inl (cL, 40, .inr (.inl sb))), (q2, .inl (cL, 40, .inr (.inl gb)))] := hD
          refine lv_iinc (v := nI (i + 1)) (lv' := [(3, .int (nI (i + 1))), (6, .long (bw_flood sb ((sb i) &&& (go i)) (co &&& ((bw_b i) ^^^ (-1))))), (4, .long ((sb i) &&& (go i))), (0, .ref h), (1, .ref o), (2, .ref q)]) hx hb dR_renew_66 hl (k := 5) rfl (nI_1 _) (by decide) rfl (fun ls hl => ?_)
          refine lv_goto (tgt := 2) hx hb dR_renew_69 (by decide) ?_
          exact ih_2 (i + 1) (vp_updL g i ((bw_flood sb ((sb i) &&& (go i)) (co &&& ((bw_b i) ^^^ (-1)))) ||| (bw_b i))) (by omega) (by omega) (by rw [eg]; refine bw_up_s _ bl i ?_; unfold bw_bl; first | (rw [if_pos c_7]; done) | (rw [if_neg c_7]; done)) H locs hP hD hS ls (lv_sub hl [3, 4, 5, 0] rfl)
        · skip
          have c_7 := bw_cmp0.mp c_7
          refine lv_lconst (v := 0) hx hb dR_renew_54 (by decide) ?_
          refine lv_goto (tgt := 65) hx hb dR_renew_55 (by decide) ?_
          refine bw_last hx hb hK hP hD hS 1 0 (k := i) rfl rfl (by omega) (by decide) dR_renew_65 (fun H locs hP hD hS => ?_)
          have hP : va_P (dC, dI) vwCl [(h, .inr (0, [.ref a1])), (a1, .inl (cL, 40, .inr (.inl (vp_updL g i 0)))), (o, .inr (1, [.ref o1, .ref o2, .long co])), (o1, .inl (cL, 40, .inr (.inl so))), (o2, .inl (cL, 40, .inr (.inl go))), (q, .inr (1, [.ref q1, .ref q2, .long cb])), (q1, .inl (cL, 40, .inr (.inl sb))), (q2, .inl (cL, 40, .inr (.inl gb)))] H := hP
          have hD : va_D A [(h, .inr (0, [.ref a1])), (a1, .inl (cL, 40, .inr (.inl (vp_updL g i 0)))), (o, .inr (1, [.ref o1, .ref o2, .long co])), (o1, .inl (cL, 40, .inr (.inl so))), (o2, .inl (cL, 40, .inr (.inl go))), (q, .inr (1, [.ref q1, .ref q2, .long cb])), (q1, .inl (cL, 40, .inr (.inl sb))), (q2, .inl (cL, 40, .inr (.inl gb)))] := hD
          refine lv_iinc (v := nI (i + 1)) (lv' := [(3, .int (nI (i + 1))), (6, .long (bw_flood sb ((sb i) &&& (go i)) (co &&& ((bw_b i) ^^^ (-1))))), (4, .long ((sb i) &&& (go i))), (0, .ref h), (1, .ref o), (2, .ref q)]) hx hb dR_renew_66 hl (k := 5) rfl (nI_1 _) (by decide) rfl (fun ls hl => ?_)
          refine lv_goto (tgt := 2) hx hb dR_renew_69 (by decide) ?_
          exact ih_2 (i + 1) (vp_updL g i 0) (by omega) (by omega) (by rw [eg]; refine bw_up_s _ bl i ?_; unfold bw_bl; first | (rw [if_pos c_7]; done) | (rw [if_neg c_7]; done)) H locs hP hD hS ls (lv_sub hl [3, 4, 5, 0] rfl)
  exact loop_2 41 0 bl (by omega) (by omega) ((bw_up_0 _ bl).symm) s.heap [] hP hD hS ls (lv_sub hl [1, 2, 3, 0] rfl)
set_option maxHeartbeats 4000000 in
set_option maxRecDepth 100000 in
theorem c_initS (l : Launch) (dC : Nat → ClassId) (dI : Nat → Nat → Nat) (h : Nat) (cL : ClassId) (sz : Nat) : Met l yS_init wsS_init ({ frames := 1, cells := 2, slots := 80, locals := 12 } : Room) (bw_Wr (dC, dI) [(cL, .long)] [(h, .inr (1, [.null, .null, .long 0]))] sz [.ref h]) (va_Qv (S := Nat × Nat) (fun _ => True) (fun (u : Nat × Nat) t => va_P (dC, dI) vwCl [(h, .inr (1, [.ref u.1, .ref u.2, .long 0])), (u.1, .inl (cL, 40, .inr (.inl (fun _ => 0)))), (u.2, .inl (cL, 40, .inr (.inl (fun _ => 0))))] t.heap ∧ va_D (va_A [(h, .inr (1, [.null, .null, .long 0]))] sz) [(h, .inr (1, [.ref u.1, .ref u.2, .long 0])), (u.1, .inl (cL, 40, .inr (.inl (fun _ => 0)))), (u.2, .inl (cL, 40, .inr (.inl (fun _ => 0))))]) (va_A [(h, .inr (1, [.null, .null, .long 0]))] sz)) 2 80 (va_A [(h, .inr (1, [.null, .null, .long 0]))] sz) := by
  refine Met.ofW (cc := cS_init) (maxL := 1) (ret := none) (by decide) rfl ?_
  intro p e s m args below meth c s₁ B hml hv
  obtain ⟨rfl, hsz, hP, hK, hN, hD0⟩ := hv
  have hx := B.exec
  have hb := B.bytes
  have hr := B.returns
  have hts := atoms_spec (ws := wsS_init) B.pre
  have hT : ∀ w ∈ bwB, w.before _ s = true := fun w h => hts w (List.mem_cons_of_mem _ h)
  have hown : s.vm.findClass RS = some m.cls := findClass_of_methodNamed B.named
  have hlocks := B.notSynchronized
  have hin : meth.name = "<init>" := (name_of_methodNamed B.named B.method).1
  subst hsz
  have hD := hD0.self (sz := s.heap.size)
  generalize hAe : va_A [(h, .inr (1, [.null, .null, .long 0]))] s.heap.size = A at hD ⊢
  have hA : ∀ q : Nat, s.heap.size ≤ q → A q := fun q h => by rw [← hAe]; exact Or.inr h
  have hS : va_S A s.heap s.heap [] := va_S.rf
  have hP : va_P (dC, dI) vwCl [(h, .inr (1, [.null, .null, .long 0]))] s.heap := hP
  have hl := lv_entry ([.ref h]) (n := 1) (Nat.le_of_ble_eq_true rfl)
  rw [lg_entry_eq]
  generalize (lg_sl ([.ref h]) ++ List.replicate (1 - (lg_sl ([.ref h])).length) Slot.unset).toArray = ls at hl ⊢
  have hl : lv_has ls 1 [(0, .ref h)] := hl
  refine lv_aload_n hx hb dS_init_0 rfl (lv_at hl 0 rfl) ?_
  refine W.objInit hx hb hown (hT _ hw_41) (hT _ hw_34) (hT _ hw_35) rfl (by rw [hml]; exact hl.1) rfl dS_init_1 (Nat.le_of_ble_eq_true rfl) (Nat.le_of_ble_eq_true rfl) ?_
  refine W.eq (g2 := F0 m 4 ls []) rfl ?_
  refine lv_aload_n hx hb dS_init_4 rfl (lv_at hl 0 rfl) ?_
  refine lv_bipush (v := nI 40) hx hb dS_init_5 (by decide) ?_
  refine va_newa hx hb (hT _ hw_53) (atype := .long) (ty := .long) rfl hK hP hD hS hA (n := nI 40) (N' := 40) (a0 := (40, .inr (.inl (fun _ => 0)))) (fun cA => vp_cell_l cA 40 (fun _ => 0)) (by decide) (by decide) (by decide) (Nat.le_of_ble_eq_true rfl) (Nat.le_of_ble_eq_true rfl) dS_init_7 (fun w1 c9 H hK hP hD hS => ?_)
  have e9 := bw_cAl hK 0 1 rfl rfl
  subst e9
  have hK := hK.sub (tys' := [(cL, .long)]) [0] rfl
  have hP : va_P (dC, dI) vwCl [(h, .inr (1, [.null, .null, .long 0])), (w1, .inl (cL, 40, .inr (.inl (fun _ => 0))))] H := hP
  have hD : va_D A [(h, .inr (1, [.null, .null, .long 0])), (w1, .inl (cL, 40, .inr (.inl (fun _ => 0))))] := hD
  refine W.widen (k := 1) (n := 40) (by omega) (by omega) ?_
  refine va_putF (D := (dC, dI)) (ci := 1) (v := .ref w1) (ty := (.array .long)) (C := RS) (T := TS) (N := 3) hx hb hT inS tyS tokS nmS hown hK hP hD hS 0 rfl rfl 0 (by decide) (hT _ hw_42) (fun _ h9 => h9) rfl hin rfl (by decide +kernel) rfl rfl (Nat.le_of_ble_eq_true rfl) dS_init_9 (fun H locs hP hD hS => ?_)
  have hP : va_P (dC, dI) vwCl [(h, .inr (1, [.ref w1, .null, .long 0])), (w1, .inl (cL, 40, .inr (.inl (fun _ => 0))))] H := hP
  have hD : va_D A [(h, .inr (1, [.ref w1, .null, .long 0])), (w1, .inl (cL, 40, .inr (.inl (fun _ => 0))))] := hD
  refine lv_aload_n hx hb dS_init_12 rfl (lv_at hl 0 rfl) ?_
  refine lv_bipush (v := nI 40) hx hb dS_init_13 (by decide) ?_
  refine va_newa hx hb (hT _ hw_53) (atype := .long) (ty := .long) rfl hK hP hD hS hA (n := nI 40) (N' := 40) (a0 := (40, .inr (.inl (fun _ => 0)))) (fun cA => vp_cell_l cA 40 (fun _ => 0)) (by decide) (by decide) (by decide) (Nat.le_of_ble_eq_true rfl) (Nat.le_of_ble_eq_true rfl) dS_init_15 (fun w2 c9 H hK hP hD hS => ?_)
  have e9 := bw_cAl hK 0 1 rfl rfl
  subst e9
  have hK := hK.sub (tys' := [(cL, .long)]) [0] rfl
  have hP : va_P (dC, dI) vwCl [(h, .inr (1, [.ref w1, .null, .long 0])), (w1, .inl (cL, 40, .inr (.inl (fun _ => 0)))), (w2, .inl (cL, 40, .inr (.inl (fun _ => 0))))] H := hP
  have hD : va_D A [(h, .inr (1, [.ref w1, .null, .long 0])), (w1, .inl (cL, 40, .inr (.inl (fun _ => 0)))), (w2, .inl (cL, 40, .inr (.inl (fun _ => 0))))] := hD
  refine W.widen (k := 2) (n := 80) (by omega) (by omega) ?_
  refine va_putF (D := (dC, dI)) (ci := 1) (v := .ref w2) (ty := (.array .long)) (C := RS) (T := TS) (N := 3) hx hb hT inS tyS tokS nmS hown hK hP hD hS 0 rfl rfl 1 (by decide) (hT _ hw_43) (fun _ h9 => h9) rfl hin rfl (by decide +kernel) rfl rfl (Nat.le_of_ble_eq_true rfl) dS_init_17 (fun H locs hP hD hS => ?_)
  have hP : va_P (dC, dI) vwCl [(h, .inr (1, [.ref w1, .ref w2, .long 0])), (w1, .inl (cL, 40, .inr (.inl (fun _ => 0)))), (w2, .inl (cL, 40, .inr (.inl (fun _ => 0))))] H := hP
  have hD : va_D A [(h, .inr (1, [.ref w1, .ref w2, .long 0])), (w1, .inl (cL, 40, .inr (.inl (fun _ => 0)))), (w2, .inl (cL, 40, .inr (.inl (fun _ => 0))))] := hD
  refine lv_aload_n hx hb dS_init_20 rfl (lv_at hl 0 rfl) ?_
  refine lv_lconst (v := 0) hx hb dS_init_21 (by decide) ?_
  refine va_put (D := (dC, dI)) (ci := 1) (v := .long 0) (ty := .long) (C := RS) (T := TS) (N := 3) hx hb hT inS tyS tokS nmS hown hK hP hD hS 0 rfl rfl 2 (by decide) (hT _ hw_44) (fun _ h9 => h9) rfl (by decide +kernel) rfl rfl (Nat.le_of_ble_eq_true rfl) dS_init_22 (fun H locs hP hD hS => ?_)
  have hP : va_P (dC, dI) vwCl [(h, .inr (1, [.ref w1, .ref w2, .long 0])), (w1, .inl (cL, 40, .inr (.inl (fun _ => 0)))), (w2, .inl (cL, 40, .inr (.inl (fun _ => 0))))] H := hP
  have hD : va_D A [(h, .inr (1, [.ref w1, .ref w2, .long 0])), (w1, .inl (cL, 40, .inr (.inl (fun _ => 0)))), (w2, .inl (cL, 40, .inr (.inl (fun _ => 0))))] := hD
  exact W.vret hx hb hr (fun t9 ht9 hW9 => ⟨⟨(w1, w2), rfl, trivial, by rw [ht9]; exact hP, hD⟩, hS.F ht9⟩) hS.2.2 dS_init_25
set_option maxHeartbeats 4000000 in
set_option maxRecDepth 100000 in
theorem c_initR (l : Launch) (dC : Nat → ClassId) (dI : Nat → Nat → Nat) (h : Nat) (cL : ClassId) (sz : Nat) : Met l yR_init wsR_init ({ frames := 1, cells := 1, slots := 40, locals := 12 } : Room) (bw_Wr (dC, dI) [(cL, .long)] [(h, .inr (0, [.null]))] sz [.ref h]) (va_Qv (S := Nat) (fun _ => True) (fun (u : Nat) t => va_P (dC, dI) vwCl [(h, .inr (0, [.ref u])), (u, .inl (cL, 40, .inr (.inl (fun _ => 0))))] t.heap ∧ va_D (va_A [(h, .inr (0, [.null]))] sz) [(h, .inr (0, [.ref u])), (u, .inl (cL, 40, .inr (.inl (fun _ => 0))))]) (va_A [(h, .inr (0, [.null]))] sz)) 1 40 (va_A [(h, .inr (0, [.null]))] sz) := by
  refine Met.ofW (cc := cR_init) (maxL := 1) (ret := none) (by decide) rfl ?_
  intro p e s m args below meth c s₁ B hml hv
  obtain ⟨rfl, hsz, hP, hK, hN, hD0⟩ := hv
  have hx := B.exec
  have hb := B.bytes
  have hr := B.returns
  have hts := atoms_spec (ws := wsR_init) B.pre
  have hT : ∀ w ∈ bwB, w.before _ s = true := fun w h => hts w (List.mem_cons_of_mem _ h)
  have hown : s.vm.findClass RR = some m.cls := findClass_of_methodNamed B.named
  have hlocks := B.notSynchronized
  have hin : meth.name = "<init>" := (name_of_methodNamed B.named B.method).1
  subst hsz
  have hD := hD0.self (sz := s.heap.size)
  generalize hAe : va_A [(h, .inr (0, [.null]))] s.heap.size = A at hD ⊢
  have hA : ∀ q : Nat, s.heap.size ≤ q → A q := fun q h => by rw [← hAe]; exact Or.inr h
  have hS : va_S A s.heap s.heap [] := va_S.rf
  have hP : va_P (dC, dI) vwCl [(h, .inr (0, [.null]))] s.heap := hP
  have hl := lv_entry ([.ref h]) (n := 1) (Nat.le_of_ble_eq_true rfl)
  rw [lg_entry_eq]
  generalize (lg_sl ([.ref h]) ++ List.replicate (1 - (lg_sl ([.ref h])).length) Slot.unset).toArray = ls at hl ⊢
  have hl : lv_has ls 1 [(0, .ref h)] := hl
  refine lv_aload_n hx hb dR_init_0 rfl (lv_at hl 0 rfl) ?_
  refine W.objInit hx hb hown (hT _ hw_59) (hT _ hw_34) (hT _ hw_35) rfl (by rw [hml]; exact hl.1) rfl dR_init_1 (Nat.le_of_ble_eq_true rfl) (Nat.le_of_ble_eq_true rfl) ?_
  refine W.eq (g2 := F0 m 4 ls []) rfl ?_
  refine lv_aload_n hx hb dR_init_4 rfl (lv_at hl 0 rfl) ?_
  refine lv_bipush (v := nI 40) hx hb dR_init_5 (by decide) ?_
  refine va_newa hx hb (hT _ hw_53) (atype := .long) (ty := .long) rfl hK hP hD hS hA (n := nI 40) (N' := 40) (a0 := (40, .inr (.inl (fun _ => 0)))) (fun cA => vp_cell_l cA 40 (fun _ => 0)) (by decide) (by decide) (by decide) (Nat.le_of_ble_eq_true rfl) (Nat.le_of_ble_eq_true rfl) dR_init_7 (fun w1 c9 H hK hP hD hS => ?_)
  have e9 := bw_cAl hK 0 1 rfl rfl
  subst e9
  have hK := hK.sub (tys' := [(cL, .long)]) [0] rfl
  have hP : va_P (dC, dI) vwCl [(h, .inr (0, [.null])), (w1, .inl (cL, 40, .inr (.inl (fun _ => 0))))] H := hP
  have hD : va_D A [(h, .inr (0, [.null])), (w1, .inl (cL, 40, .inr (.inl (fun _ => 0))))] := hD
  refine W.widen (k := 1) (n := 40) (by omega) (by omega) ?_
  refine va_putF (D := (dC, dI)) (ci := 0) (v := .ref w1) (ty := (.array .long)) (C := RR) (T := TR) (N := 1) hx hb hT inR tyR tokR nmR hown hK hP hD hS 0 rfl rfl 0 (by decide) (hT _ hw_60) (fun _ h9 => h9) rfl hin rfl (by decide +kernel) rfl rfl (Nat.le_of_ble_eq_true rfl) dR_init_9 (fun H locs hP hD hS => ?_)
  have hP : va_P (dC, dI) vwCl [(h, .inr (0, [.ref w1])), (w1, .inl (cL, 40, .inr (.inl (fun _ => 0))))] H := hP
  have hD : va_D A [(h, .inr (0, [.ref w1])), (w1, .inl (cL, 40, .inr (.inl (fun _ => 0))))] := hD
  exact W.vret hx hb hr (fun t9 ht9 hW9 => ⟨⟨w1, rfl, trivial, by rw [ht9]; exact hP, hD⟩, hS.F ht9⟩) hS.2.2 dR_init_12
