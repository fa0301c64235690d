set_option maxHeartbeats 4000000 in
set_option maxRecDepth 100000 in
theorem c_forget (l : Launch) (dC : Nat → ClassId) (dI : Nat → Nat → Nat) (x t1 o q r : Nat) (T : Int64) (f1 f2 : Int32) (sz : Nat) : Met l yB_forgetAnswers wsB_forgetAnswers ({ frames := 0, cells := 0, slots := 0, locals := 0 } : Room) (bw_Wr (dC, dI) [] [(x, .inr (2, [.long T, .ref t1, .ref o, .ref q, .ref r, .int f1, .int f2]))] sz [.ref x]) (va_Qv (S := Unit) (fun _ => True) (fun (_ : Unit) t => va_P (dC, dI) vwCl [(x, .inr (2, [.long T, .ref t1, .ref o, .ref q, .ref r, .int 1, .int 1]))] t.heap ∧ va_D (va_A [(x, .inr (2, [.long T, .ref t1, .ref o, .ref q, .ref r, .int f1, .int f2]))] sz) [(x, .inr (2, [.long T, .ref t1, .ref o, .ref q, .ref r, .int 1, .int 1]))]) (va_A [(x, .inr (2, [.long T, .ref t1, .ref o, .ref q, .ref r, .int f1, .int f2]))] sz)) 0 0 (va_A [(x, .inr (2, [.long T, .ref t1, .ref o, .ref q, .ref r, .int f1, .int f2]))] sz) := by
  refine Met.ofW (cc := cB_forgetAnswers) (maxL := 1) (ret := none) (by decide) rfl ?_
  intro p e s m args below meth c s₁ B hml hv
  obtain ⟨rfl, hsz, hP, hK, hN, hD0⟩ := hv
  have hx := B.exec
  have hb := B.bytes
  have hr := B.returns
  have hts := atoms_spec (ws := wsB_forgetAnswers) B.pre
  have hT : ∀ w ∈ bwB, w.before _ s = true := fun w h => hts w (List.mem_cons_of_mem _ h)
  have hown : s.vm.findClass RB = some m.cls := findClass_of_methodNamed B.named
  have hlocks := B.notSynchronized
  subst hsz
  have hD := hD0.self (sz := s.heap.size)
  generalize hAe : va_A [(x, .inr (2, [.long T, .ref t1, .ref o, .ref q, .ref r, .int f1, .int f2]))] s.heap.size = A at hD ⊢
  have hA : ∀ q : Nat, s.heap.size ≤ q → A q := fun q h => by rw [← hAe]; exact Or.inr h
  have hS : va_S A s.heap s.heap [] := va_S.rf
  have hP : va_P (dC, dI) vwCl [(x, .inr (2, [.long T, .ref t1, .ref o, .ref q, .ref r, .int f1, .int f2]))] s.heap := hP
  have hl := lv_entry ([.ref x]) (n := 1) (Nat.le_of_ble_eq_true rfl)
  rw [lg_entry_eq]
  generalize (lg_sl ([.ref x]) ++ List.replicate (1 - (lg_sl ([.ref x])).length) Slot.unset).toArray = ls at hl ⊢
  have hl : lv_has ls 1 [(0, .ref x)] := hl
  refine lv_aload_n hx hb dB_forgetAnswers_0 rfl (lv_at hl 0 rfl) ?_
  refine lv_iconst (v := 1) hx hb dB_forgetAnswers_1 (by decide) ?_
  refine va_put (D := (dC, dI)) (ci := 2) (v := .int 1) (ty := .boolean) (C := RB) (T := TB) (N := 7) hx hb hT inB tyB tokB nmB hown hK hP hD hS 0 rfl rfl 5 (by decide) (hT _ hw_69) (fun _ h9 => h9) rfl (by decide +kernel) rfl rfl (Nat.le_of_ble_eq_true rfl) dB_forgetAnswers_2 (fun H locs hP hD hS => ?_)
  have hP : va_P (dC, dI) vwCl [(x, .inr (2, [.long T, .ref t1, .ref o, .ref q, .ref r, .int 1, .int f2]))] H := hP
  have hD : va_D A [(x, .inr (2, [.long T, .ref t1, .ref o, .ref q, .ref r, .int 1, .int f2]))] := hD
  refine lv_aload_n hx hb dB_forgetAnswers_5 rfl (lv_at hl 0 rfl) ?_
  refine lv_iconst (v := 1) hx hb dB_forgetAnswers_6 (by decide) ?_
  refine va_put (D := (dC, dI)) (ci := 2) (v := .int 1) (ty := .boolean) (C := RB) (T := TB) (N := 7) hx hb hT inB tyB tokB nmB hown hK hP hD hS 0 rfl rfl 6 (by decide) (hT _ hw_70) (fun _ h9 => h9) rfl (by decide +kernel) rfl rfl (Nat.le_of_ble_eq_true rfl) dB_forgetAnswers_7 (fun H locs hP hD hS => ?_)
  have hP : va_P (dC, dI) vwCl [(x, .inr (2, [.long T, .ref t1, .ref o, .ref q, .ref r, .int 1, .int 1]))] H := hP
  have hD : va_D A [(x, .inr (2, [.long T, .ref t1, .ref o, .ref q, .ref r, .int 1, .int 1]))] := hD
  have hP9 := hP.sub (ws' := [(x, .inr (2, [.long T, .ref t1, .ref o, .ref q, .ref r, .int 1, .int 1]))]) [0] rfl
  have hD9 := hD.sub (ws' := [(x, .inr (2, [.long T, .ref t1, .ref o, .ref q, .ref r, .int 1, .int 1]))]) [0] (by decide) rfl
  exact W.vret hx hb hr (fun t9 ht9 hW9 => ⟨⟨(), rfl, trivial, by rw [ht9]; exact hP9, by exact hD9⟩, hS.F ht9⟩) hS.2.2 dB_forgetAnswers_10
set_option maxHeartbeats 4000000 in
set_option maxRecDepth 100000 in
theorem c_isTold1 (l : Launch) (dC : Nat → ClassId) (dI : Nat → Nat → Nat) (x t1 o q r : Nat) (T : Int64) (f1 f2 : Int32) (k : Nat) (hk : k < 40) : Met l yB_isTold wsB_isTold ({ frames := 2, cells := 0, slots := 0, locals := 42 } : Room) (bw_Ro (dC, dI) [] [(x, .inr (2, [.long T, .ref t1, .ref o, .ref q, .ref r, .int f1, .int f2]))] [.ref x, .int (nI k)]) (vp_Si (fun r => r = bw_i (bw_m T k))) 0 0 (fun _ => False) := by
  refine Met.ofW (cc := cB_isTold) (maxL := 2) (ret := (some .boolean)) (by decide) rfl ?_
  intro p e s m args below meth c s₁ B hml hv
  obtain ⟨rfl, hP, hK, hN⟩ := hv
  have hx := B.exec
  have hb := B.bytes
  have hr := B.returns
  have hts := atoms_spec (ws := wsB_isTold) B.pre
  have hT : ∀ w ∈ bwB, w.before _ s = true := fun w h => hts w (List.mem_cons_of_mem _ h)
  have hown : s.vm.findClass RB = some m.cls := findClass_of_methodNamed B.named
  have hlocks := B.notSynchronized
  have hl := lv_entry ([.ref x, .int (nI k)]) (n := 2) (Nat.le_of_ble_eq_true rfl)
  rw [lg_entry_eq]
  generalize (lg_sl ([.ref x, .int (nI k)]) ++ List.replicate (2 - (lg_sl ([.ref x, .int (nI k)])).length) Slot.unset).toArray = ls at hl ⊢
  have hl : lv_has ls 2 [(0, .ref x), (1, .int (nI k))] := hl
  refine lv_iload_n hx hb dB_isTold_0 rfl (lv_at hl 1 rfl) ?_
  refine vp_callSi (W.runS (As := [.int (nI k)]) (rest := []) ⟨hx, hb, hml, hown, hT⟩ (c_isB1 l k (by omega)) (cwS 1 hT g_B_41 rfl rfl rfl (by decide +kernel) ⟨Nat.le_of_ble_eq_true rfl, Nat.le_of_ble_eq_true rfl⟩) preEq rfl rfl hl.1 rfl (lv_room (Nat.le_of_ble_eq_true rfl)) dB_isTold_1 ⟨Nat.le_of_ble_eq_true rfl, Nat.le_of_ble_eq_true rfl⟩) (fun r_1 hr_1 => ?_)
  rw [hr_1]; clear hr_1
  refine lv_if_eq (tgt := 22) hx hb dB_isTold_4 (by decide) (fun c_2 => ?_) (fun c_2 => ?_)
  · skip
    exact absurd c_2 (by decide)
  · skip
    refine lv_aload_n hx hb dB_isTold_7 rfl (lv_at hl 0 rfl) ?_
    refine va_get (D := (dC, dI)) (ci := 2) (v := .long T) (C := RB) (T := TB) (N := 7) hx hb hT inB hown hK hP 0 rfl rfl 0 (by decide) (hT _ hw_64) (fun _ h9 => h9) rfl dB_isTold_8 ?_
    refine lv_iload_n hx hb dB_isTold_11 rfl (lv_at hl 1 rfl) ?_
    refine vp_callSi (W.runS (As := [.long T, .int (nI k)]) (rest := []) ⟨hx, hb, hml, hown, hT⟩ (c_has l T k (by omega)) (cwS 2 hT g_B_45 rfl rfl rfl (by decide +kernel) ⟨Nat.le_of_ble_eq_true rfl, Nat.le_of_ble_eq_true rfl⟩) preEq rfl rfl hl.1 rfl (lv_room (Nat.le_of_ble_eq_true rfl)) dB_isTold_12 ⟨Nat.le_of_ble_eq_true rfl, Nat.le_of_ble_eq_true rfl⟩) (fun r_3 hr_3 => ?_)
    rw [hr_3]; clear hr_3
    refine lv_if_eq (tgt := 22) hx hb dB_isTold_15 (by decide) (fun c_4 => ?_) (fun c_4 => ?_)
    · skip
      have c_4 := bw_i0.mp c_4
      refine lv_iconst (v := 0) hx hb dB_isTold_22 (by decide) ?_
      exact W.zret (v := 0) hx hb hr rfl (fun t9 ht9 hW9 => ⟨_, rfl, (by first | exact (bw_iT c_4).symm | exact (bw_iF c_4).symm), ht9⟩) (fun q hq => nomatch hq) dB_isTold_23
    · skip
      have c_4 := bw_in0 c_4
      refine lv_iconst (v := 1) hx hb dB_isTold_18 (by decide) ?_
      refine lv_goto (tgt := 23) hx hb dB_isTold_19 (by decide) ?_
      exact W.zret (v := 1) hx hb hr rfl (fun t9 ht9 hW9 => ⟨_, rfl, (by first | exact (bw_iT c_4).symm | exact (bw_iF c_4).symm), ht9⟩) (fun q hq => nomatch hq) dB_isTold_23
set_option maxHeartbeats 4000000 in
set_option maxRecDepth 100000 in
theorem c_isTold0 (l : Launch) (dC : Nat → ClassId) (dI : Nat → Nat → Nat) (x t1 o q r : Nat) (T : Int64) (f1 f2 : Int32) (b : Int32) (hb9 : ∀ k, k < 40 → ¬ b = nI k) : Met l yB_isTold wsB_isTold ({ frames := 1, cells := 0, slots := 0, locals := 20 } : Room) (bw_Ro (dC, dI) [] [(x, .inr (2, [.long T, .ref t1, .ref o, .ref q, .ref r, .int f1, .int f2]))] [.ref x, .int b]) (vp_Si (fun r => r = 0)) 0 0 (fun _ => False) := by
  refine Met.ofW (cc := cB_isTold) (maxL := 2) (ret := (some .boolean)) (by decide) rfl ?_
  intro p e s m args below meth c s₁ B hml hv
  obtain ⟨rfl, hP, hK, hN⟩ := hv
  have hx := B.exec
  have hb := B.bytes
  have hr := B.returns
  have hts := atoms_spec (ws := wsB_isTold) B.pre
  have hT : ∀ w ∈ bwB, w.before _ s = true := fun w h => hts w (List.mem_cons_of_mem _ h)
  have hown : s.vm.findClass RB = some m.cls := findClass_of_methodNamed B.named
  have hlocks := B.notSynchronized
  have hl := lv_entry ([.ref x, .int b]) (n := 2) (Nat.le_of_ble_eq_true rfl)
  rw [lg_entry_eq]
  generalize (lg_sl ([.ref x, .int b]) ++ List.replicate (2 - (lg_sl ([.ref x, .int b])).length) Slot.unset).toArray = ls at hl ⊢
  have hl : lv_has ls 2 [(0, .ref x), (1, .int b)] := hl
  refine lv_iload_n hx hb dB_isTold_0 rfl (lv_at hl 1 rfl) ?_
  refine vp_callSi (W.runS (As := [.int b]) (rest := []) ⟨hx, hb, hml, hown, hT⟩ (c_isB0 l b hb9) (cwS 1 hT g_B_41 rfl rfl rfl (by decide +kernel) ⟨Nat.le_of_ble_eq_true rfl, Nat.le_of_ble_eq_true rfl⟩) preEq rfl rfl hl.1 rfl (lv_room (Nat.le_of_ble_eq_true rfl)) dB_isTold_1 ⟨Nat.le_of_ble_eq_true rfl, Nat.le_of_ble_eq_true rfl⟩) (fun r_1 hr_1 => ?_)
  rw [hr_1]; clear hr_1
  refine lv_if_eq (tgt := 22) hx hb dB_isTold_4 (by decide) (fun c_2 => ?_) (fun c_2 => ?_)
  · skip
    refine lv_iconst (v := 0) hx hb dB_isTold_22 (by decide) ?_
    exact W.zret (v := 0) hx hb hr rfl (fun t9 ht9 hW9 => ⟨_, rfl, rfl, ht9⟩) (fun q hq => nomatch hq) dB_isTold_23
  · skip
    exact absurd rfl c_2
set_option maxHeartbeats 4000000 in
set_option maxRecDepth 100000 in
theorem c_ends (l : Launch) (dC : Nat → ClassId) (dI : Nat → Nat → Nat) (x t1 o q r : Nat) (cI : ClassId) (T : Int64) (tc : Nat → Int32) (f1 f2 : Int32) : Met l yB_ends wsB_ends ({ frames := 2, cells := 0, slots := 0, locals := 42 } : Room) (bw_Ro (dC, dI) [(cI, .int)] [(x, .inr (2, [.long T, .ref t1, .ref o, .ref q, .ref r, .int f1, .int f2])), (t1, .inl (cI, 40, .inl tc))] [.ref x]) (vp_Sl (fun r => r = bw_ends T tc)) 0 0 (fun _ => False) := by
  refine Met.ofW (cc := cB_ends) (maxL := 4) (ret := (some .long)) (by decide) rfl ?_
  intro p e s m args below meth c s₁ B hml hv
  obtain ⟨rfl, hP, hK, hN⟩ := hv
  have hx := B.exec
  have hb := B.bytes
  have hr := B.returns
  have hts := atoms_spec (ws := wsB_ends) B.pre
  have hT : ∀ w ∈ bwB, w.before _ s = true := fun w h => hts w (List.mem_cons_of_mem _ h)
  have hown : s.vm.findClass RB = some m.cls := findClass_of_methodNamed B.named
  have hlocks := B.notSynchronized
  have hl := lv_entry ([.ref x]) (n := 4) (Nat.le_of_ble_eq_true rfl)
  rw [lg_entry_eq]
  generalize (lg_sl ([.ref x]) ++ List.replicate (4 - (lg_sl ([.ref x])).length) Slot.unset).toArray = ls at hl ⊢
  have hl : lv_has ls 4 [(0, .ref x)] := hl
  refine lv_lconst (v := 0) hx hb dB_ends_0 (by decide) ?_
  refine lv_lstore_n (lv' := [(1, .long 0), (0, .ref x)]) hx hb dB_ends_1 rfl hl (by decide) rfl (fun ls hl => ?_)
  refine lv_iconst (v := nI 0) hx hb dB_ends_2 (by decide) ?_
  refine lv_istore_n (lv' := [(3, .int (nI 0)), (1, .long 0), (0, .ref x)]) hx hb dB_ends_3 rfl hl (by decide) rfl (fun ls hl => ?_)
  have loop_4 : ∀ (n_4 : Nat) (i : Nat) (acc : Int64), i ≤ 40 → 40 < i + n_4 → acc = bw_F (fun b => bw_m T b && decide (tc b = 0)) bw_b 0 i → ∀ (ls : Array Slot), lv_has ls 4 [(0, .ref x), (1, .long acc), (3, .int (nI i))] → W p l e (headSpec wsB_ends ({ frames := 2, cells := 0, slots := 0, locals := 42 } : Room)).room s m ([.ref x] : List Value).toArray below meth c s.heap [] 0 0 (MQ below (vp_Sl (fun r => r = bw_ends T tc)) ([.ref x] : List Value).toArray s 0 0 (fun _ => False)) (F0 m 4 ls []) := by
    intro n_4
    induction n_4 with
    | zero => intro i acc hii hfi ea; exfalso; omega
    | succ n_4 ih_4 =>
      intro i acc hii hfi ea ls hl
      refine lv_iload_n hx hb dB_ends_4 rfl (lv_at hl 2 rfl) ?_
      refine lv_bipush (v := nI 40) hx hb dB_ends_5 (by decide) ?_
      refine lv_icmp_ge (tgt := 43) hx hb dB_ends_7 (by decide) (fun c_1 => ?_) (fun c_1 => ?_)
      · skip
        have c_1 : 40 ≤ i := (nI_leI (a := 40) (b := i) (by omega) (by omega)).mp c_1
        refine lv_lload_n hx hb dB_ends_43 rfl (lv_at hl 1 rfl) ?_
        exact W.lret (v := acc) hx hb hr (fun t9 ht9 hW9 => ⟨_, rfl, (by rw [ea, show i = 40 by omega]; rfl), ht9⟩) (fun q hq => nomatch hq) dB_ends_44
      · skip
        have c_1 : ¬ 40 ≤ i := fun z => c_1 ((nI_leI (a := 40) (b := i) (by omega) (by omega)).mpr z)
        refine lv_aload_n hx hb dB_ends_10 rfl (lv_at hl 0 rfl) ?_
        refine va_get (D := (dC, dI)) (ci := 2) (v := .long T) (C := RB) (T := TB) (N := 7) hx hb hT inB hown hK hP 0 rfl rfl 0 (by decide) (hT _ hw_64) (fun _ h9 => h9) rfl dB_ends_11 ?_
        refine lv_iload_n hx hb dB_ends_14 rfl (lv_at hl 2 rfl) ?_
        refine vp_callSi (W.runS (As := [.long T, .int (nI i)]) (rest := []) ⟨hx, hb, hml, hown, hT⟩ (c_has l T i (by omega)) (cwS 2 hT g_B_45 rfl rfl rfl (by decide +kernel) ⟨Nat.le_of_ble_eq_true rfl, Nat.le_of_ble_eq_true rfl⟩) preEq rfl rfl hl.1 rfl (lv_room (Nat.le_of_ble_eq_true rfl)) dB_ends_15 ⟨Nat.le_of_ble_eq_true rfl, Nat.le_of_ble_eq_true rfl⟩) (fun r_2 hr_2 => ?_)
        rw [hr_2]; clear hr_2
        refine lv_if_eq (tgt := 37) hx hb dB_ends_18 (by decide) (fun c_3 => ?_) (fun c_3 => ?_)
        · skip
          have c_3 := bw_i0.mp c_3
          refine lv_iinc (v := nI (i + 1)) (lv' := [(3, .int (nI (i + 1))), (0, .ref x), (1, .long acc)]) hx hb dB_ends_37 hl (k := 2) rfl (nI_1 _) (by decide) rfl (fun ls hl => ?_)
          refine lv_goto (tgt := 4) hx hb dB_ends_40 (by decide) ?_
          exact ih_4 (i + 1) acc (by omega) (by omega) (by first | (rw [bw_F_t (c := fun b => bw_m T b && decide (tc b = 0)) (n := i) (bw_endT c_1 c_3), ← ea]; done) | (rw [bw_F_f (c := fun b => bw_m T b && decide (tc b = 0)) (n := i) (bw_endF1 c_3), ← ea]; done) | (rw [bw_F_f (c := fun b => bw_m T b && decide (tc b = 0)) (n := i) (bw_endF2 c_3), ← ea]; done) ) ls (lv_sub hl [1, 2, 0] rfl)
        · skip
          have c_3 := bw_in0 c_3
          refine lv_aload_n hx hb dB_ends_21 rfl (lv_at hl 0 rfl) ?_
          refine va_get (D := (dC, dI)) (ci := 2) (v := .ref t1) (C := RB) (T := TB) (N := 7) hx hb hT inB hown hK hP 0 rfl rfl 1 (by decide) (hT _ hw_65) (fun _ h9 => h9) rfl dB_ends_22 ?_
          refine lv_iload_n hx hb dB_ends_25 rfl (lv_at hl 2 rfl) ?_
          refine bw_iald hx hb hK hP 1 0 (k := i) rfl rfl (by omega) (by decide) dB_ends_26 ?_
          refine lv_if_ne (tgt := 37) hx hb dB_ends_27 (by decide) (fun c_4 => ?_) (fun c_4 => ?_)
          · skip
            refine lv_iinc (v := nI (i + 1)) (lv' := [(3, .int (nI (i + 1))), (0, .ref x), (1, .long acc)]) hx hb dB_ends_37 hl (k := 2) rfl (nI_1 _) (by decide) rfl (fun ls hl => ?_)
            refine lv_goto (tgt := 4) hx hb dB_ends_40 (by decide) ?_
            exact ih_4 (i + 1) acc (by omega) (by omega) (by first | (rw [bw_F_t (c := fun b => bw_m T b && decide (tc b = 0)) (n := i) (bw_endT c_3 c_4), ← ea]; done) | (rw [bw_F_f (c := fun b => bw_m T b && decide (tc b = 0)) (n := i) (bw_endF1 c_4), ← ea]; done) | (rw [bw_F_f (c := fun b => bw_m T b && decide (tc b = 0)) (n := i) (bw_endF2 c_4), ← ea]; done) ) ls (lv_sub hl [1, 2, 0] rfl)
          · skip
            refine lv_lload_n hx hb dB_ends_30 rfl (lv_at hl 1 rfl) ?_
            refine lv_iload_n hx hb dB_ends_31 rfl (lv_at hl 2 rfl) ?_
            refine vp_callSl (W.runS (As := [.int (nI i)]) (rest := [.long acc]) ⟨hx, hb, hml, hown, hT⟩ (c_bit l i) (cwS 1 hT g_B_49 rfl rfl rfl (by decide +kernel) ⟨Nat.le_of_ble_eq_true rfl, Nat.le_of_ble_eq_true rfl⟩) preEq rfl rfl hl.1 rfl (lv_room (Nat.le_of_ble_eq_true rfl)) dB_ends_32 ⟨Nat.le_of_ble_eq_true rfl, Nat.le_of_ble_eq_true rfl⟩) (fun r_5 hr_5 => ?_)
            rw [hr_5]; clear hr_5
            refine lv_lor hx hb dB_ends_35 ?_
            refine lv_lstore_n (lv' := [(1, .long (acc ||| (bw_b i))), (0, .ref x), (3, .int (nI i))]) hx hb dB_ends_36 rfl hl (by decide) rfl (fun ls hl => ?_)
            refine lv_iinc (v := nI (i + 1)) (lv' := [(3, .int (nI (i + 1))), (1, .long (acc ||| (bw_b i))), (0, .ref x)]) hx hb dB_ends_37 hl (k := 2) rfl (nI_1 _) (by decide) rfl (fun ls hl => ?_)
            refine lv_goto (tgt := 4) hx hb dB_ends_40 (by decide) ?_
            exact ih_4 (i + 1) (acc ||| (bw_b i)) (by omega) (by omega) (by first | (rw [bw_F_t (c := fun b => bw_m T b && decide (tc b = 0)) (n := i) (bw_endT c_3 c_4), ← ea]; done) | (rw [bw_F_f (c := fun b => bw_m T b && decide (tc b = 0)) (n := i) (bw_endF1 c_4), ← ea]; done) | (rw [bw_F_f (c := fun b => bw_m T b && decide (tc b = 0)) (n := i) (bw_endF2 c_4), ← ea]; done) ) ls (lv_sub hl [2, 1, 0] rfl)
  exact loop_4 41 0 0 (by omega) (by omega) (rfl) ls (lv_sub hl [2, 1, 0] rfl)
set_option maxHeartbeats 4000000 in
set_option maxRecDepth 100000 in
theorem c_renewOnward (l : Launch) (dC : Nat → ClassId) (dI : Nat → Nat → Nat) (x t1 o o1 o2 q q1 q2 r r1 : Nat) (cI cL : ClassId) (T : Int64) (tc : Nat → Int32) (so go : Nat → Int64) (co : Int64) (sb gb : Nat → Int64) (cb : Int64) (bl : Nat → Int64) (f1 f2 : Int32) (sz : Nat) : Met l yB_renewOnward wsB_renewOnward ({ frames := 4, cells := 0, slots := 0, locals := 101 } : Room) (bw_Wr (dC, dI) [(cI, .int), (cL, .long)] [(x, .inr (2, [.long T, .ref t1, .ref o, .ref q, .ref r, .int f1, .int f2])), (t1, .inl (cI, 40, .inl tc)), (o, .inr (1, [.ref o1, .ref o2, .long co])), (q, .inr (1, [.ref q1, .ref q2, .long cb])), (r, .inr (0, [.ref r1])), (o1, .inl (cL, 40, .inr (.inl so))), (o2, .inl (cL, 40, .inr (.inl go))), (q1, .inl (cL, 40, .inr (.inl sb))), (q2, .inl (cL, 40, .inr (.inl gb))), (r1, .inl (cL, 40, .inr (.inl bl)))] sz [.ref x]) (va_Qv (S := Unit) (fun _ => True) (fun (_ : Unit) t => va_P (dC, dI) vwCl [(x, .inr (2, [.long T, .ref t1, .ref o, .ref q, .ref r, .int 0, .int f2])), (t1, .inl (cI, 40, .inl tc)), (o, .inr (1, [.ref o1, .ref o2, .long (bw_q f1 co (bw_nc so T))])), (q, .inr (1, [.ref q1, .ref q2, .long cb])), (r, .inr (0, [.ref r1])), (o1, .inl (cL, 40, .inr (.inl so))), (o2, .inl (cL, 40, .inr (.inl (bw_q f1 go (bw_ng so T go))))), (q1, .inl (cL, 40, .inr (.inl sb))), (q2, .inl (cL, 40, .inr (.inl gb))), (r1, .inl (cL, 40, .inr (.inl (bw_q f1 bl (bw_nl so sb T go bl)))))] t.heap ∧ va_D (va_A [(x, .inr (2, [.long T, .ref t1, .ref o, .ref q, .ref r, .int f1, .int f2])), (t1, .inl (cI, 40, .inl tc)), (o, .inr (1, [.ref o1, .ref o2, .long co])), (q, .inr (1, [.ref q1, .ref q2, .long cb])), (r, .inr (0, [.ref r1])), (o1, .inl (cL, 40, .inr (.inl so))), (o2, .inl (cL, 40, .inr (.inl go))), (q1, .inl (cL, 40, .inr (.inl sb))), (q2, .inl (cL, 40, .inr (.inl gb))), (r1, .inl (cL, 40, .inr (.inl bl)))] sz) [(x, .inr (2, [.long T, .ref t1, .ref o, .ref q, .ref r, .int 0, .int f2])), (t1, .inl (cI, 40, .inl tc)), (o, .inr (1, [.ref o1, .ref o2, .long (bw_q f1 co (bw_nc so T))])), (q, .inr (1, [.ref q1, .ref q2, .long cb])), (r, .inr (0, [.ref r1])), (o1, .inl (cL, 40, .inr (.inl so))), (o2, .inl (cL, 40, .inr (.inl (bw_q f1 go (bw_ng so T go))))), (q1, .inl (cL, 40, .inr (.inl sb))), (q2, .inl (cL, 40, .inr (.inl gb))), (r1, .inl (cL, 40, .inr (.inl (bw_q f1 bl (bw_nl so sb T go bl)))))]) (va_A [(x, .inr (2, [.long T, .ref t1, .ref o, .ref q, .ref r, .int f1, .int f2])), (t1, .inl (cI, 40, .inl tc)), (o, .inr (1, [.ref o1, .ref o2, .long co])), (q, .inr (1, [.ref q1, .ref q2, .long cb])), (r, .inr (0, [.ref r1])), (o1, .inl (cL, 40, .inr (.inl so))), (o2, .inl (cL, 40, .inr (.inl go))), (q1, .inl (cL, 40, .inr (.inl sb))), (q2, .inl (cL, 40, .inr (.inl gb))), (r1, .inl (cL, 40, .inr (.inl bl)))] sz)) 0 0 (va_A [(x, .inr (2, [.long T, .ref t1, .ref o, .ref q, .ref r, .int f1, .int f2])), (t1, .inl (cI, 40, .inl tc)), (o, .inr (1, [.ref o1, .ref o2, .long co])), (q, .inr (1, [.ref q1, .ref q2, .long cb])), (r, .inr (0, [.ref r1])), (o1, .inl (cL, 40, .inr (.inl so))), (o2, .inl (cL, 40, .inr (.inl go))), (q1, .inl (cL, 40, .inr (.inl sb))), (q2, .inl (cL, 40, .inr (.inl gb))), (r1, .inl (cL, 40, .inr (.inl bl)))] sz) := by
  refine Met.ofW (cc := cB_renewOnward) (maxL := 1) (ret := none) (by decide) rfl ?_
  intro p e s m args below meth c s₁ B hml hv
  obtain ⟨rfl, hsz, hP, hK, hN, hD0⟩ := hv
  have hx := B.exec
  have hb := B.bytes
  have hr := B.returns
  have hts := atoms_spec (ws := wsB_renewOnward) B.pre
  have hT : ∀ w ∈ bwB, w.before _ s = true := fun w h => hts w (List.mem_cons_of_mem _ h)
  have hown : s.vm.findClass RB = some m.cls := findClass_of_methodNamed B.named
  have hlocks := B.notSynchronized
  subst hsz
  have hD := hD0.self (sz := s.heap.size)
  generalize hAe : va_A [(x, .inr (2, [.long T, .ref t1, .ref o, .ref q, .ref r, .int f1, .int f2])), (t1, .inl (cI, 40, .inl tc)), (o, .inr (1, [.ref o1, .ref o2, .long co])), (q, .inr (1, [.ref q1, .ref q2, .long cb])), (r, .inr (0, [.ref r1])), (o1, .inl (cL, 40, .inr (.inl so))), (o2, .inl (cL, 40, .inr (.inl go))), (q1, .inl (cL, 40, .inr (.inl sb))), (q2, .inl (cL, 40, .inr (.inl gb))), (r1, .inl (cL, 40, .inr (.inl bl)))] s.heap.size = A at hD ⊢
  have hA : ∀ q : Nat, s.heap.size ≤ q → A q := fun q h => by rw [← hAe]; exact Or.inr h
  have hS : va_S A s.heap s.heap [] := va_S.rf
  have hP : va_P (dC, dI) vwCl [(x, .inr (2, [.long T, .ref t1, .ref o, .ref q, .ref r, .int f1, .int f2])), (t1, .inl (cI, 40, .inl tc)), (o, .inr (1, [.ref o1, .ref o2, .long co])), (q, .inr (1, [.ref q1, .ref q2, .long cb])), (r, .inr (0, [.ref r1])), (o1, .inl (cL, 40, .inr (.inl so))), (o2, .inl (cL, 40, .inr (.inl go))), (q1, .inl (cL, 40, .inr (.inl sb))), (q2, .inl (cL, 40, .inr (.inl gb))), (r1, .inl (cL, 40, .inr (.inl bl)))] s.heap := hP
  have hl := lv_entry ([.ref x]) (n := 1) (Nat.le_of_ble_eq_true rfl)
  rw [lg_entry_eq]
  generalize (lg_sl ([.ref x]) ++ List.replicate (1 - (lg_sl ([.ref x])).length) Slot.unset).toArray = ls at hl ⊢
  have hl : lv_has ls 1 [(0, .ref x)] := hl
  refine lv_aload_n hx hb dB_renewOnward_0 rfl (lv_at hl 0 rfl) ?_
  refine va_get (D := (dC, dI)) (ci := 2) (v := .int f1) (C := RB) (T := TB) (N := 7) hx hb hT inB hown hK hP 0 rfl rfl 5 (by decide) (hT _ hw_69) (fun _ h9 => h9) rfl dB_renewOnward_1 ?_
  refine lv_if_eq (tgt := 42) hx hb dB_renewOnward_4 (by decide) (fun c_1 => ?_) (fun c_1 => ?_)
  · skip
    subst c_1
    have hP9 := hP.sub (ws' := [(x, .inr (2, [.long T, .ref t1, .ref o, .ref q, .ref r, .int 0, .int f2])), (t1, .inl (cI, 40, .inl tc)), (o, .inr (1, [.ref o1, .ref o2, .long co])), (q, .inr (1, [.ref q1, .ref q2, .long cb])), (r, .inr (0, [.ref r1])), (o1, .inl (cL, 40, .inr (.inl so))), (o2, .inl (cL, 40, .inr (.inl go))), (q1, .inl (cL, 40, .inr (.inl sb))), (q2, .inl (cL, 40, .inr (.inl gb))), (r1, .inl (cL, 40, .inr (.inl bl)))]) [0, 1, 2, 3, 4, 5, 6, 7, 8, 9] rfl
    have hD9 := hD.sub (ws' := [(x, .inr (2, [.long T, .ref t1, .ref o, .ref q, .ref r, .int 0, .int f2])), (t1, .inl (cI, 40, .inl tc)), (o, .inr (1, [.ref o1, .ref o2, .long co])), (q, .inr (1, [.ref q1, .ref q2, .long cb])), (r, .inr (0, [.ref r1])), (o1, .inl (cL, 40, .inr (.inl so))), (o2, .inl (cL, 40, .inr (.inl go))), (q1, .inl (cL, 40, .inr (.inl sb))), (q2, .inl (cL, 40, .inr (.inl gb))), (r1, .inl (cL, 40, .inr (.inl bl)))]) [0, 1, 2, 3, 4, 5, 6, 7, 8, 9] (by decide) rfl
    exact W.vret hx hb hr (fun t9 ht9 hW9 => ⟨⟨(), rfl, trivial, by rw [ht9]; simp only [bw_q_t (rfl : (0 : Int32) = 0)]; exact hP9, by simp only [bw_q_t (rfl : (0 : Int32) = 0)]; exact hD9⟩, hS.F ht9⟩) hS.2.2 dB_renewOnward_42
  · skip
    refine lv_aload_n hx hb dB_renewOnward_7 rfl (lv_at hl 0 rfl) ?_
    refine va_get (D := (dC, dI)) (ci := 2) (v := .ref o) (C := RB) (T := TB) (N := 7) hx hb hT inB hown hK hP 0 rfl rfl 2 (by decide) (hT _ hw_66) (fun _ h9 => h9) rfl dB_renewOnward_8 ?_
    refine lv_iconst (v := nI 0) hx hb dB_renewOnward_11 (by decide) ?_
    refine vp_callSl (W.runS (As := [.int (nI 0)]) (rest := [.ref o]) ⟨hx, hb, hml, hown, hT⟩ (c_bit l 0) (cwS 1 hT g_B_49 rfl rfl rfl (by decide +kernel) ⟨Nat.le_of_ble_eq_true rfl, Nat.le_of_ble_eq_true rfl⟩) preEq rfl rfl hl.1 rfl (lv_room (Nat.le_of_ble_eq_true rfl)) dB_renewOnward_12 ⟨Nat.le_of_ble_eq_true rfl, Nat.le_of_ble_eq_true rfl⟩) (fun r_2 hr_2 => ?_)
    rw [hr_2]; clear hr_2
    refine lv_aload_n hx hb dB_renewOnward_15 rfl (lv_at hl 0 rfl) ?_
    refine va_get (D := (dC, dI)) (ci := 2) (v := .long T) (C := RB) (T := TB) (N := 7) hx hb hT inB hown hK hP 0 rfl rfl 0 (by decide) (hT _ hw_64) (fun _ h9 => h9) rfl dB_renewOnward_16 ?_
    have hPc := hP.sub (ws' := [(o, .inr (1, [.ref o1, .ref o2, .long co])), (o1, .inl (cL, 40, .inr (.inl so))), (o2, .inl (cL, 40, .inr (.inl go)))]) [2, 5, 6] rfl
    have hDc := hD.sub (ws' := [(o, .inr (1, [.ref o1, .ref o2, .long co])), (o1, .inl (cL, 40, .inr (.inl so))), (o2, .inl (cL, 40, .inr (.inl go)))]) [2, 5, 6] (by decide) rfl
    have hKc := hK.sub (tys' := [(cL, .long)]) [1] rfl
    have hFc := va_free (wc := [(o, .inr (1, [.ref o1, .ref o2, .long co])), (o1, .inl (cL, 40, .inr (.inl so))), (o2, .inl (cL, 40, .inr (.inl go)))]) hD hS hA [2, 5, 6] rfl
    refine va_callv (va_runV (As := [.long (bw_b 0), .long T]) (rest := []) ⟨hx, hb, hml, hown, hT⟩ (c_renewS l dC dI o o1 o2 cL so go co (bw_b 0) T s.heap.size) (cwV 2 hT g_B_139 rfl rfl rfl (by decide +kernel) ⟨Nat.le_of_ble_eq_true rfl, Nat.le_of_ble_eq_true rfl⟩) (bw_qV hPc hKc hN hDc (ci := 1) (q0 := 0) rfl rfl) rfl rfl hl.1 rfl (lv_room (Nat.le_of_ble_eq_true rfl)) dB_renewOnward_19 ⟨Nat.le_of_ble_eq_true rfl, Nat.le_of_ble_eq_true rfl⟩) hS (fun q _ h => hFc q h) hFc (fun u_3 t_3 H1 locs ht hvm hw_3 hB hz1 hk1 hS => ?_)
    obtain ⟨hP1, hD1⟩ := hB
    rw [ht] at hP1
    obtain ⟨hP, hD⟩ := va_join (wr := [(x, .inr (2, [.long T, .ref t1, .ref o, .ref q, .ref r, .int f1, .int f2])), (t1, .inl (cI, 40, .inl tc)), (q, .inr (1, [.ref q1, .ref q2, .long cb])), (r, .inr (0, [.ref r1])), (q1, .inl (cL, 40, .inr (.inl sb))), (q2, .inl (cL, 40, .inr (.inl gb))), (r1, .inl (cL, 40, .inr (.inl bl)))]) (w1 := [(o, .inr (1, [.ref o1, .ref o2, .long (bw_flood so (bw_b 0) T)])), (o1, .inl (cL, 40, .inr (.inl so))), (o2, .inl (cL, 40, .inr (.inl (bw_up (bw_gt so (bw_b 0) (bw_flood so (bw_b 0) T)) go 40))))]) hP hD [2, 5, 6] [0, 1, 3, 4, 7, 8, 9] rfl rfl (by decide) (by decide) hk1 hFc hP1 hD1
    generalize H1 = H at hP hS ⊢
    have hP : va_P (dC, dI) vwCl [(x, .inr (2, [.long T, .ref t1, .ref o, .ref q, .ref r, .int f1, .int f2])), (t1, .inl (cI, 40, .inl tc)), (q, .inr (1, [.ref q1, .ref q2, .long cb])), (r, .inr (0, [.ref r1])), (q1, .inl (cL, 40, .inr (.inl sb))), (q2, .inl (cL, 40, .inr (.inl gb))), (r1, .inl (cL, 40, .inr (.inl bl))), (o, .inr (1, [.ref o1, .ref o2, .long (bw_flood so (bw_b 0) T)])), (o1, .inl (cL, 40, .inr (.inl so))), (o2, .inl (cL, 40, .inr (.inl (bw_up (bw_gt so (bw_b 0) (bw_flood so (bw_b 0) T)) go 40))))] H := hP
    have hD : va_D A [(x, .inr (2, [.long T, .ref t1, .ref o, .ref q, .ref r, .int f1, .int f2])), (t1, .inl (cI, 40, .inl tc)), (q, .inr (1, [.ref q1, .ref q2, .long cb])), (r, .inr (0, [.ref r1])), (q1, .inl (cL, 40, .inr (.inl sb))), (q2, .inl (cL, 40, .inr (.inl gb))), (r1, .inl (cL, 40, .inr (.inl bl))), (o, .inr (1, [.ref o1, .ref o2, .long (bw_flood so (bw_b 0) T)])), (o1, .inl (cL, 40, .inr (.inl so))), (o2, .inl (cL, 40, .inr (.inl (bw_up (bw_gt so (bw_b 0) (bw_flood so (bw_b 0) T)) go 40))))] := hD
    refine lv_aload_n hx hb dB_renewOnward_22 rfl (lv_at hl 0 rfl) ?_
    refine va_get (D := (dC, dI)) (ci := 2) (v := .ref r) (C := RB) (T := TB) (N := 7) hx hb hT inB hown hK hP 0 rfl rfl 4 (by decide) (hT _ hw_68) (fun _ h9 => h9) rfl dB_renewOnward_23 ?_
    refine lv_aload_n hx hb dB_renewOnward_26 rfl (lv_at hl 0 rfl) ?_
    refine va_get (D := (dC, dI)) (ci := 2) (v := .ref o) (C := RB) (T := TB) (N := 7) hx hb hT inB hown hK hP 0 rfl rfl 2 (by decide) (hT _ hw_66) (fun _ h9 => h9) rfl dB_renewOnward_27 ?_
    refine lv_aload_n hx hb dB_renewOnward_30 rfl (lv_at hl 0 rfl) ?_
    refine va_get (D := (dC, dI)) (ci := 2) (v := .ref q) (C := RB) (T := TB) (N := 7) hx hb hT inB hown hK hP 0 rfl rfl 3 (by decide) (hT _ hw_67) (fun _ h9 => h9) rfl dB_renewOnward_31 ?_
    have hPc := hP.sub (ws' := [(r, .inr (0, [.ref r1])), (r1, .inl (cL, 40, .inr (.inl bl))), (o, .inr (1, [.ref o1, .ref o2, .long (bw_flood so (bw_b 0) T)])), (o1, .inl (cL, 40, .inr (.inl so))), (o2, .inl (cL, 40, .inr (.inl (bw_up (bw_gt so (bw_b 0) (bw_flood so (bw_b 0) T)) go 40)))), (q, .inr (1, [.ref q1, .ref q2, .long cb])), (q1, .inl (cL, 40, .inr (.inl sb))), (q2, .inl (cL, 40, .inr (.inl gb)))]) [3, 6, 7, 8, 9, 2, 4, 5] rfl
    have hDc := hD.sub (ws' := [(r, .inr (0, [.ref r1])), (r1, .inl (cL, 40, .inr (.inl bl))), (o, .inr (1, [.ref o1, .ref o2, .long (bw_flood so (bw_b 0) T)])), (o1, .inl (cL, 40, .inr (.inl so))), (o2, .inl (cL, 40, .inr (.inl (bw_up (bw_gt so (bw_b 0) (bw_flood so (bw_b 0) T)) go 40)))), (q, .inr (1, [.ref q1, .ref q2, .long cb])), (q1, .inl (cL, 40, .inr (.inl sb))), (q2, .inl (cL, 40, .inr (.inl gb)))]) [3, 6, 7, 8, 9, 2, 4, 5] (by decide) rfl
    have hKc := hK.sub (tys' := [(cL, .long)]) [1] rfl
    have hFc := va_free (wc := [(r, .inr (0, [.ref r1])), (r1, .inl (cL, 40, .inr (.inl bl))), (o, .inr (1, [.ref o1, .ref o2, .long (bw_flood so (bw_b 0) T)])), (o1, .inl (cL, 40, .inr (.inl so))), (o2, .inl (cL, 40, .inr (.inl (bw_up (bw_gt so (bw_b 0) (bw_flood so (bw_b 0) T)) go 40)))), (q, .inr (1, [.ref q1, .ref q2, .long cb])), (q1, .inl (cL, 40, .inr (.inl sb))), (q2, .inl (cL, 40, .inr (.inl gb)))]) hD hS hA [3, 6, 7, 8, 9, 2, 4, 5] rfl
    refine va_callv (va_runV (As := [.ref o, .ref q]) (rest := []) ⟨hx, hb, hml, hown, hT⟩ (c_renewR l dC dI r r1 cL bl o o1 o2 so (bw_up (bw_gt so (bw_b 0) (bw_flood so (bw_b 0) T)) go 40) (bw_flood so (bw_b 0) T) q q1 q2 sb gb cb H.size) (cwV 2 hT g_B_143 rfl rfl rfl (by decide +kernel) ⟨Nat.le_of_ble_eq_true rfl, Nat.le_of_ble_eq_true rfl⟩) (bw_qV hPc hKc hN hDc (ci := 0) (q0 := 0) rfl rfl) rfl rfl hl.1 rfl (lv_room (Nat.le_of_ble_eq_true rfl)) dB_renewOnward_34 ⟨Nat.le_of_ble_eq_true rfl, Nat.le_of_ble_eq_true rfl⟩) hS (fun q _ h => hFc q h) hFc (fun u_4 t_4 H1 locs ht hvm hw_4 hB hz1 hk1 hS => ?_)
    obtain ⟨hP1, hD1⟩ := hB
    rw [ht] at hP1
    obtain ⟨hP, hD⟩ := va_join (wr := [(x, .inr (2, [.long T, .ref t1, .ref o, .ref q, .ref r, .int f1, .int f2])), (t1, .inl (cI, 40, .inl tc))]) (w1 := [(r, .inr (0, [.ref r1])), (r1, .inl (cL, 40, .inr (.inl (bw_up (bw_bl sb (bw_up (bw_gt so (bw_b 0) (bw_flood so (bw_b 0) T)) go 40) (bw_flood so (bw_b 0) T)) bl 40)))), (o, .inr (1, [.ref o1, .ref o2, .long (bw_flood so (bw_b 0) T)])), (o1, .inl (cL, 40, .inr (.inl so))), (o2, .inl (cL, 40, .inr (.inl (bw_up (bw_gt so (bw_b 0) (bw_flood so (bw_b 0) T)) go 40)))), (q, .inr (1, [.ref q1, .ref q2, .long cb])), (q1, .inl (cL, 40, .inr (.inl sb))), (q2, .inl (cL, 40, .inr (.inl gb)))]) hP hD [3, 6, 7, 8, 9, 2, 4, 5] [0, 1] rfl rfl (by decide) (by decide) hk1 hFc hP1 hD1
    generalize H1 = H at hP hS ⊢
    have hP : va_P (dC, dI) vwCl [(x, .inr (2, [.long T, .ref t1, .ref o, .ref q, .ref r, .int f1, .int f2])), (t1, .inl (cI, 40, .inl tc)), (r, .inr (0, [.ref r1])), (r1, .inl (cL, 40, .inr (.inl (bw_up (bw_bl sb (bw_up (bw_gt so (bw_b 0) (bw_flood so (bw_b 0) T)) go 40) (bw_flood so (bw_b 0) T)) bl 40)))), (o, .inr (1, [.ref o1, .ref o2, .long (bw_flood so (bw_b 0) T)])), (o1, .inl (cL, 40, .inr (.inl so))), (o2, .inl (cL, 40, .inr (.inl (bw_up (bw_gt so (bw_b 0) (bw_flood so (bw_b 0) T)) go 40)))), (q, .inr (1, [.ref q1, .ref q2, .long cb])), (q1, .inl (cL, 40, .inr (.inl sb))), (q2, .inl (cL, 40, .inr (.inl gb)))] H := hP
    have hD : va_D A [(x, .inr (2, [.long T, .ref t1, .ref o, .ref q, .ref r, .int f1, .int f2])), (t1, .inl (cI, 40, .inl tc)), (r, .inr (0, [.ref r1])), (r1, .inl (cL, 40, .inr (.inl (bw_up (bw_bl sb (bw_up (bw_gt so (bw_b 0) (bw_flood so (bw_b 0) T)) go 40) (bw_flood so (bw_b 0) T)) bl 40)))), (o, .inr (1, [.ref o1, .ref o2, .long (bw_flood so (bw_b 0) T)])), (o1, .inl (cL, 40, .inr (.inl so))), (o2, .inl (cL, 40, .inr (.inl (bw_up (bw_gt so (bw_b 0) (bw_flood so (bw_b 0) T)) go 40)))), (q, .inr (1, [.ref q1, .ref q2, .long cb])), (q1, .inl (cL, 40, .inr (.inl sb))), (q2, .inl (cL, 40, .inr (.inl gb)))] := hD
    refine lv_aload_n hx hb dB_renewOnward_37 rfl (lv_at hl 0 rfl) ?_
    refine lv_iconst (v := 0) hx hb dB_renewOnward_38 (by decide) ?_
    refine va_put (D := (dC, dI)) (ci := 2) (v := .int 0) (ty := .boolean) (C := RB) (T := TB) (N := 7) hx hb hT inB tyB tokB nmB hown hK hP hD hS 0 rfl rfl 5 (by decide) (hT _ hw_69) (fun _ h9 => h9) rfl (by decide +kernel) rfl rfl (Nat.le_of_ble_eq_true rfl) dB_renewOnward_39 (fun H locs hP hD hS => ?_)
    have hP : va_P (dC, dI) vwCl [(x, .inr (2, [.long T, .ref t1, .ref o, .ref q, .ref r, .int 0, .int f2])), (t1, .inl (cI, 40, .inl tc)), (r, .inr (0, [.ref r1])), (r1, .inl (cL, 40, .inr (.inl (bw_up (bw_bl sb (bw_up (bw_gt so (bw_b 0) (bw_flood so (bw_b 0) T)) go 40) (bw_flood so (bw_b 0) T)) bl 40)))), (o, .inr (1, [.ref o1, .ref o2, .long (bw_flood so (bw_b 0) T)])), (o1, .inl (cL, 40, .inr (.inl so))), (o2, .inl (cL, 40, .inr (.inl (bw_up (bw_gt so (bw_b 0) (bw_flood so (bw_b 0) T)) go 40)))), (q, .inr (1, [.ref q1, .ref q2, .long cb])), (q1, .inl (cL, 40, .inr (.inl sb))), (q2, .inl (cL, 40, .inr (.inl gb)))] H := hP
    have hD : va_D A [(x, .inr (2, [.long T, .ref t1, .ref o, .ref q, .ref r, .int 0, .int f2])), (t1, .inl (cI, 40, .inl tc)), (r, .inr (0, [.ref r1])), (r1, .inl (cL, 40, .inr (.inl (bw_up (bw_bl sb (bw_up (bw_gt so (bw_b 0) (bw_flood so (bw_b 0) T)) go 40) (bw_flood so (bw_b 0) T)) bl 40)))), (o, .inr (1, [.ref o1, .ref o2, .long (bw_flood so (bw_b 0) T)])), (o1, .inl (cL, 40, .inr (.inl so))), (o2, .inl (cL, 40, .inr (.inl (bw_up (bw_gt so (bw_b 0) (bw_flood so (bw_b 0) T)) go 40)))), (q, .inr (1, [.ref q1, .ref q2, .long cb])), (q1, .inl (cL, 40, .inr (.inl sb))), (q2, .inl (cL, 40, .inr (.inl gb)))] := hD
    have hP9 := hP.sub (ws' := [(x, .inr (2, [.long T, .ref t1, .ref o, .ref q, .ref r, .int 0, .int f2])), (t1, .inl (cI, 40, .inl tc)), (o, .inr (1, [.ref o1, .ref o2, .long (bw_flood so (bw_b 0) T)])), (q, .inr (1, [.ref q1, .ref q2, .long cb])), (r, .inr (0, [.ref r1])), (o1, .inl (cL, 40, .inr (.inl so))), (o2, .inl (cL, 40, .inr (.inl (bw_up (bw_gt so (bw_b 0) (bw_flood so (bw_b 0) T)) go 40)))), (q1, .inl (cL, 40, .inr (.inl sb))), (q2, .inl (cL, 40, .inr (.inl gb))), (r1, .inl (cL, 40, .inr (.inl (bw_up (bw_bl sb (bw_up (bw_gt so (bw_b 0) (bw_flood so (bw_b 0) T)) go 40) (bw_flood so (bw_b 0) T)) bl 40))))]) [0, 1, 4, 7, 2, 5, 6, 8, 9, 3] rfl
    have hD9 := hD.sub (ws' := [(x, .inr (2, [.long T, .ref t1, .ref o, .ref q, .ref r, .int 0, .int f2])), (t1, .inl (cI, 40, .inl tc)), (o, .inr (1, [.ref o1, .ref o2, .long (bw_flood so (bw_b 0) T)])), (q, .inr (1, [.ref q1, .ref q2, .long cb])), (r, .inr (0, [.ref r1])), (o1, .inl (cL, 40, .inr (.inl so))), (o2, .inl (cL, 40, .inr (.inl (bw_up (bw_gt so (bw_b 0) (bw_flood so (bw_b 0) T)) go 40)))), (q1, .inl (cL, 40, .inr (.inl sb))), (q2, .inl (cL, 40, .inr (.inl gb))), (r1, .inl (cL, 40, .inr (.inl (bw_up (bw_bl sb (bw_up (bw_gt so (bw_b 0) (bw_flood so (bw_b 0) T)) go 40) (bw_flood so (bw_b 0) T)) bl 40))))]) [0, 1, 4, 7, 2, 5, 6, 8, 9, 3] (by decide) rfl
    exact W.vret hx hb hr (fun t9 ht9 hW9 => ⟨⟨(), rfl, trivial, by rw [ht9]; simp only [bw_q_f c_1]; exact hP9, by simp only [bw_q_f c_1]; exact hD9⟩, hS.F ht9⟩) hS.2.2 dB_renewOnward_42
set_option maxHeartbeats 4000000 in
set_option maxRecDepth 100000 in
theorem c_freshOnward (l : Launch) (dC : Nat → ClassId) (dI : Nat → Nat → Nat) (x t1 o o1 o2 q q1 q2 r r1 : Nat) (cI cL : ClassId) (T : Int64) (tc : Nat → Int32) (so go : Nat → Int64) (co : Int64) (sb gb : Nat → Int64) (cb : Int64) (bl : Nat → Int64) (f1 f2 : Int32) (sz : Nat) : Met l yB_freshOnward wsB_freshOnward ({ frames := 5, cells := 0, slots := 0, locals := 121 } : Room) (bw_Wr (dC, dI) [(cI, .int), (cL, .long)] [(x, .inr (2, [.long T, .ref t1, .ref o, .ref q, .ref r, .int f1, .int f2])), (t1, .inl (cI, 40, .inl tc)), (o, .inr (1, [.ref o1, .ref o2, .long co])), (q, .inr (1, [.ref q1, .ref q2, .long cb])), (r, .inr (0, [.ref r1])), (o1, .inl (cL, 40, .inr (.inl so))), (o2, .inl (cL, 40, .inr (.inl go))), (q1, .inl (cL, 40, .inr (.inl sb))), (q2, .inl (cL, 40, .inr (.inl gb))), (r1, .inl (cL, 40, .inr (.inl bl)))] sz [.ref x]) (va_Qr (S := Unit) (fun _ => True) (fun (_ : Unit) (ra : Nat) t => ra = o ∧ va_P (dC, dI) vwCl [(x, .inr (2, [.long T, .ref t1, .ref o, .ref q, .ref r, .int 0, .int f2])), (t1, .inl (cI, 40, .inl tc)), (o, .inr (1, [.ref o1, .ref o2, .long (bw_q f1 co (bw_nc so T))])), (q, .inr (1, [.ref q1, .ref q2, .long cb])), (r, .inr (0, [.ref r1])), (o1, .inl (cL, 40, .inr (.inl so))), (o2, .inl (cL, 40, .inr (.inl (bw_q f1 go (bw_ng so T go))))), (q1, .inl (cL, 40, .inr (.inl sb))), (q2, .inl (cL, 40, .inr (.inl gb))), (r1, .inl (cL, 40, .inr (.inl (bw_q f1 bl (bw_nl so sb T go bl)))))] t.heap ∧ va_D (va_A [(x, .inr (2, [.long T, .ref t1, .ref o, .ref q, .ref r, .int f1, .int f2])), (t1, .inl (cI, 40, .inl tc)), (o, .inr (1, [.ref o1, .ref o2, .long co])), (q, .inr (1, [.ref q1, .ref q2, .long cb])), (r, .inr (0, [.ref r1])), (o1, .inl (cL, 40, .inr (.inl so))), (o2, .inl (cL, 40, .inr (.inl go))), (q1, .inl (cL, 40, .inr (.inl sb))), (q2, .inl (cL, 40, .inr (.inl gb))), (r1, .inl (cL, 40, .inr (.inl bl)))] sz) [(x, .inr (2, [.long T, .ref t1, .ref o, .ref q, .ref r, .int 0, .int f2])), (t1, .inl (cI, 40, .inl tc)), (o, .inr (1, [.ref o1, .ref o2, .long (bw_q f1 co (bw_nc so T))])), (q, .inr (1, [.ref q1, .ref q2, .long cb])), (r, .inr (0, [.ref r1])), (o1, .inl (cL, 40, .inr (.inl so))), (o2, .inl (cL, 40, .inr (.inl (bw_q f1 go (bw_ng so T go))))), (q1, .inl (cL, 40, .inr (.inl sb))), (q2, .inl (cL, 40, .inr (.inl gb))), (r1, .inl (cL, 40, .inr (.inl (bw_q f1 bl (bw_nl so sb T go bl)))))]) (va_A [(x, .inr (2, [.long T, .ref t1, .ref o, .ref q, .ref r, .int f1, .int f2])), (t1, .inl (cI, 40, .inl tc)), (o, .inr (1, [.ref o1, .ref o2, .long co])), (q, .inr (1, [.ref q1, .ref q2, .long cb])), (r, .inr (0, [.ref r1])), (o1, .inl (cL, 40, .inr (.inl so))), (o2, .inl (cL, 40, .inr (.inl go))), (q1, .inl (cL, 40, .inr (.inl sb))), (q2, .inl (cL, 40, .inr (.inl gb))), (r1, .inl (cL, 40, .inr (.inl bl)))] sz)) 0 0 (va_A [(x, .inr (2, [.long T, .ref t1, .ref o, .ref q, .ref r, .int f1, .int f2])), (t1, .inl (cI, 40, .inl tc)), (o, .inr (1, [.ref o1, .ref o2, .long co])), (q, .inr (1, [.ref q1, .ref q2, .long cb])), (r, .inr (0, [.ref r1])), (o1, .inl (cL, 40, .inr (.inl so))), (o2, .inl (cL, 40, .inr (.inl go))), (q1, .inl (cL, 40, .inr (.inl sb))), (q2, .inl (cL, 40, .inr (.inl gb))), (r1, .inl (cL, 40, .inr (.inl bl)))] sz) := by
  refine Met.ofW (cc := cB_freshOnward) (maxL := 1) (ret := (some (.object "BlockWays$Spread"))) (by decide) rfl ?_
  intro p e s m args below meth c s₁ B hml hv
  obtain ⟨rfl, hsz, hP, hK, hN, hD0⟩ := hv
  have hx := B.exec
  have hb := B.bytes
  have hr := B.returns
  have hts := atoms_spec (ws := wsB_freshOnward) B.pre
  have hT : ∀ w ∈ bwB, w.before _ s = true := fun w h => hts w (List.mem_cons_of_mem _ h)
  have hown : s.vm.findClass RB = some m.cls := findClass_of_methodNamed B.named
  have hlocks := B.notSynchronized
  subst hsz
  have hD := hD0.self (sz := s.heap.size)
  generalize hAe : va_A [(x, .inr (2, [.long T, .ref t1, .ref o, .ref q, .ref r, .int f1, .int f2])), (t1, .inl (cI, 40, .inl tc)), (o, .inr (1, [.ref o1, .ref o2, .long co])), (q, .inr (1, [.ref q1, .ref q2, .long cb])), (r, .inr (0, [.ref r1])), (o1, .inl (cL, 40, .inr (.inl so))), (o2, .inl (cL, 40, .inr (.inl go))), (q1, .inl (cL, 40, .inr (.inl sb))), (q2, .inl (cL, 40, .inr (.inl gb))), (r1, .inl (cL, 40, .inr (.inl bl)))] s.heap.size = A at hD ⊢
  have hA : ∀ q : Nat, s.heap.size ≤ q → A q := fun q h => by rw [← hAe]; exact Or.inr h
  have hS : va_S A s.heap s.heap [] := va_S.rf
  have hP : va_P (dC, dI) vwCl [(x, .inr (2, [.long T, .ref t1, .ref o, .ref q, .ref r, .int f1, .int f2])), (t1, .inl (cI, 40, .inl tc)), (o, .inr (1, [.ref o1, .ref o2, .long co])), (q, .inr (1, [.ref q1, .ref q2, .long cb])), (r, .inr (0, [.ref r1])), (o1, .inl (cL, 40, .inr (.inl so))), (o2, .inl (cL, 40, .inr (.inl go))), (q1, .inl (cL, 40, .inr (.inl sb))), (q2, .inl (cL, 40, .inr (.inl gb))), (r1, .inl (cL, 40, .inr (.inl bl)))] s.heap := hP
  have hl := lv_entry ([.ref x]) (n := 1) (Nat.le_of_ble_eq_true rfl)
  rw [lg_entry_eq]
  generalize (lg_sl ([.ref x]) ++ List.replicate (1 - (lg_sl ([.ref x])).length) Slot.unset).toArray = ls at hl ⊢
  have hl : lv_has ls 1 [(0, .ref x)] := hl
  refine lv_aload_n hx hb dB_freshOnward_0 rfl (lv_at hl 0 rfl) ?_
  have hPc := hP.sub (ws' := [(x, .inr (2, [.long T, .ref t1, .ref o, .ref q, .ref r, .int f1, .int f2])), (t1, .inl (cI, 40, .inl tc)), (o, .inr (1, [.ref o1, .ref o2, .long co])), (q, .inr (1, [.ref q1, .ref q2, .long cb])), (r, .inr (0, [.ref r1])), (o1, .inl (cL, 40, .inr (.inl so))), (o2, .inl (cL, 40, .inr (.inl go))), (q1, .inl (cL, 40, .inr (.inl sb))), (q2, .inl (cL, 40, .inr (.inl gb))), (r1, .inl (cL, 40, .inr (.inl bl)))]) [0, 1, 2, 3, 4, 5, 6, 7, 8, 9] rfl
  have hDc := hD.sub (ws' := [(x, .inr (2, [.long T, .ref t1, .ref o, .ref q, .ref r, .int f1, .int f2])), (t1, .inl (cI, 40, .inl tc)), (o, .inr (1, [.ref o1, .ref o2, .long co])), (q, .inr (1, [.ref q1, .ref q2, .long cb])), (r, .inr (0, [.ref r1])), (o1, .inl (cL, 40, .inr (.inl so))), (o2, .inl (cL, 40, .inr (.inl go))), (q1, .inl (cL, 40, .inr (.inl sb))), (q2, .inl (cL, 40, .inr (.inl gb))), (r1, .inl (cL, 40, .inr (.inl bl)))]) [0, 1, 2, 3, 4, 5, 6, 7, 8, 9] (by decide) rfl
  have hKc := hK.sub (tys' := [(cI, .int), (cL, .long)]) [0, 1] rfl
  have hFc := va_free (wc := [(x, .inr (2, [.long T, .ref t1, .ref o, .ref q, .ref r, .int f1, .int f2])), (t1, .inl (cI, 40, .inl tc)), (o, .inr (1, [.ref o1, .ref o2, .long co])), (q, .inr (1, [.ref q1, .ref q2, .long cb])), (r, .inr (0, [.ref r1])), (o1, .inl (cL, 40, .inr (.inl so))), (o2, .inl (cL, 40, .inr (.inl go))), (q1, .inl (cL, 40, .inr (.inl sb))), (q2, .inl (cL, 40, .inr (.inl gb))), (r1, .inl (cL, 40, .inr (.inl bl)))]) hD hS hA [0, 1, 2, 3, 4, 5, 6, 7, 8, 9] rfl
  refine va_callv (va_runV (As := []) (rest := []) ⟨hx, hb, hml, hown, hT⟩ (c_renewOnward l dC dI x t1 o o1 o2 q q1 q2 r r1 cI cL T tc so go co sb gb cb bl f1 f2 s.heap.size) (cwV 0 hT g_B_136 rfl rfl rfl (by decide +kernel) ⟨Nat.le_of_ble_eq_true rfl, Nat.le_of_ble_eq_true rfl⟩) (bw_qV hPc hKc hN hDc (ci := 2) (q0 := 0) rfl rfl) rfl rfl hl.1 rfl (lv_room (Nat.le_of_ble_eq_true rfl)) dB_freshOnward_1 ⟨Nat.le_of_ble_eq_true rfl, Nat.le_of_ble_eq_true rfl⟩) hS (fun q _ h => hFc q h) hFc (fun u_1 t_1 H1 locs ht hvm hw_1 hB hz1 hk1 hS => ?_)
  obtain ⟨hP1, hD1⟩ := hB
  rw [ht] at hP1
  obtain ⟨hP, hD⟩ := va_join (wr := []) (w1 := [(x, .inr (2, [.long T, .ref t1, .ref o, .ref q, .ref r, .int 0, .int f2])), (t1, .inl (cI, 40, .inl tc)), (o, .inr (1, [.ref o1, .ref o2, .long (bw_q f1 co (bw_nc so T))])), (q, .inr (1, [.ref q1, .ref q2, .long cb])), (r, .inr (0, [.ref r1])), (o1, .inl (cL, 40, .inr (.inl so))), (o2, .inl (cL, 40, .inr (.inl (bw_q f1 go (bw_ng so T go))))), (q1, .inl (cL, 40, .inr (.inl sb))), (q2, .inl (cL, 40, .inr (.inl gb))), (r1, .inl (cL, 40, .inr (.inl (bw_q f1 bl (bw_nl so sb T go bl)))))]) hP hD [0, 1, 2, 3, 4, 5, 6, 7, 8, 9] [] rfl rfl (by decide) (by decide) hk1 hFc hP1 hD1
  generalize H1 = H at hP hS ⊢
  have hP : va_P (dC, dI) vwCl [(x, .inr (2, [.long T, .ref t1, .ref o, .ref q, .ref r, .int 0, .int f2])), (t1, .inl (cI, 40, .inl tc)), (o, .inr (1, [.ref o1, .ref o2, .long (bw_q f1 co (bw_nc so T))])), (q, .inr (1, [.ref q1, .ref q2, .long cb])), (r, .inr (0, [.ref r1])), (o1, .inl (cL, 40, .inr (.inl so))), (o2, .inl (cL, 40, .inr (.inl (bw_q f1 go (bw_ng so T go))))), (q1, .inl (cL, 40, .inr (.inl sb))), (q2, .inl (cL, 40, .inr (.inl gb))), (r1, .inl (cL, 40, .inr (.inl (bw_q f1 bl (bw_nl so sb T go bl)))))] H := hP
  have hD : va_D A [(x, .inr (2, [.long T, .ref t1, .ref o, .ref q, .ref r, .int 0, .int f2])), (t1, .inl (cI, 40, .inl tc)), (o, .inr (1, [.ref o1, .ref o2, .long (bw_q f1 co (bw_nc so T))])), (q, .inr (1, [.ref q1, .ref q2, .long cb])), (r, .inr (0, [.ref r1])), (o1, .inl (cL, 40, .inr (.inl so))), (o2, .inl (cL, 40, .inr (.inl (bw_q f1 go (bw_ng so T go))))), (q1, .inl (cL, 40, .inr (.inl sb))), (q2, .inl (cL, 40, .inr (.inl gb))), (r1, .inl (cL, 40, .inr (.inl (bw_q f1 bl (bw_nl so sb T go bl)))))] := hD
  refine lv_aload_n hx hb dB_freshOnward_4 rfl (lv_at hl 0 rfl) ?_
  refine va_get (D := (dC, dI)) (ci := 2) (v := .ref o) (C := RB) (T := TB) (N := 7) hx hb hT inB hown hK hP 0 rfl rfl 2 (by decide) (hT _ hw_66) (fun _ h9 => h9) rfl dB_freshOnward_5 ?_
  have hP9 := hP.sub (ws' := [(x, .inr (2, [.long T, .ref t1, .ref o, .ref q, .ref r, .int 0, .int f2])), (t1, .inl (cI, 40, .inl tc)), (o, .inr (1, [.ref o1, .ref o2, .long (bw_q f1 co (bw_nc so T))])), (q, .inr (1, [.ref q1, .ref q2, .long cb])), (r, .inr (0, [.ref r1])), (o1, .inl (cL, 40, .inr (.inl so))), (o2, .inl (cL, 40, .inr (.inl (bw_q f1 go (bw_ng so T go))))), (q1, .inl (cL, 40, .inr (.inl sb))), (q2, .inl (cL, 40, .inr (.inl gb))), (r1, .inl (cL, 40, .inr (.inl (bw_q f1 bl (bw_nl so sb T go bl)))))]) [0, 1, 2, 3, 4, 5, 6, 7, 8, 9] rfl
  have hD9 := hD.sub (ws' := [(x, .inr (2, [.long T, .ref t1, .ref o, .ref q, .ref r, .int 0, .int f2])), (t1, .inl (cI, 40, .inl tc)), (o, .inr (1, [.ref o1, .ref o2, .long (bw_q f1 co (bw_nc so T))])), (q, .inr (1, [.ref q1, .ref q2, .long cb])), (r, .inr (0, [.ref r1])), (o1, .inl (cL, 40, .inr (.inl so))), (o2, .inl (cL, 40, .inr (.inl (bw_q f1 go (bw_ng so T go))))), (q1, .inl (cL, 40, .inr (.inl sb))), (q2, .inl (cL, 40, .inr (.inl gb))), (r1, .inl (cL, 40, .inr (.inl (bw_q f1 bl (bw_nl so sb T go bl)))))]) [0, 1, 2, 3, 4, 5, 6, 7, 8, 9] (by decide) rfl
  exact W.aret (v := .ref o) hx hb hr (Or.inl ⟨_, rfl⟩) (Or.inr ⟨_, rfl⟩) (fun t9 ht9 hW9 => ⟨⟨(), _, rfl, trivial, rfl, by rw [ht9]; exact hP9, by exact hD9⟩, hS.F ht9⟩) hS.2.2 dB_freshOnward_8
set_option maxHeartbeats 4000000 in
set_option maxRecDepth 100000 in
theorem c_freshRounds (l : Launch) (dC : Nat → ClassId) (dI : Nat → Nat → Nat) (x t1 o o1 o2 q q1 q2 r r1 : Nat) (cI cL : ClassId) (T : Int64) (tc : Nat → Int32) (so go : Nat → Int64) (co : Int64) (sb gb : Nat → Int64) (cb : Int64) (bl : Nat → Int64) (f1 f2 : Int32) (sz : Nat) : Met l yB_freshRounds wsB_freshRounds ({ frames := 5, cells := 0, slots := 0, locals := 121 } : Room) (bw_Wr (dC, dI) [(cI, .int), (cL, .long)] [(x, .inr (2, [.long T, .ref t1, .ref o, .ref q, .ref r, .int f1, .int f2])), (t1, .inl (cI, 40, .inl tc)), (o, .inr (1, [.ref o1, .ref o2, .long co])), (q, .inr (1, [.ref q1, .ref q2, .long cb])), (r, .inr (0, [.ref r1])), (o1, .inl (cL, 40, .inr (.inl so))), (o2, .inl (cL, 40, .inr (.inl go))), (q1, .inl (cL, 40, .inr (.inl sb))), (q2, .inl (cL, 40, .inr (.inl gb))), (r1, .inl (cL, 40, .inr (.inl bl)))] sz [.ref x]) (va_Qr (S := Unit) (fun _ => True) (fun (_ : Unit) (ra : Nat) t => ra = r ∧ va_P (dC, dI) vwCl [(x, .inr (2, [.long T, .ref t1, .ref o, .ref q, .ref r, .int 0, .int f2])), (t1, .inl (cI, 40, .inl tc)), (o, .inr (1, [.ref o1, .ref o2, .long (bw_q f1 co (bw_nc so T))])), (q, .inr (1, [.ref q1, .ref q2, .long cb])), (r, .inr (0, [.ref r1])), (o1, .inl (cL, 40, .inr (.inl so))), (o2, .inl (cL, 40, .inr (.inl (bw_q f1 go (bw_ng so T go))))), (q1, .inl (cL, 40, .inr (.inl sb))), (q2, .inl (cL, 40, .inr (.inl gb))), (r1, .inl (cL, 40, .inr (.inl (bw_q f1 bl (bw_nl so sb T go bl)))))] t.heap ∧ va_D (va_A [(x, .inr (2, [.long T, .ref t1, .ref o, .ref q, .ref r, .int f1, .int f2])), (t1, .inl (cI, 40, .inl tc)), (o, .inr (1, [.ref o1, .ref o2, .long co])), (q, .inr (1, [.ref q1, .ref q2, .long cb])), (r, .inr (0, [.ref r1])), (o1, .inl (cL, 40, .inr (.inl so))), (o2, .inl (cL, 40, .inr (.inl go))), (q1, .inl (cL, 40, .inr (.inl sb))), (q2, .inl (cL, 40, .inr (.inl gb))), (r1, .inl (cL, 40, .inr (.inl bl)))] sz) [(x, .inr (2, [.long T, .ref t1, .ref o, .ref q, .ref r, .int 0, .int f2])), (t1, .inl (cI, 40, .inl tc)), (o, .inr (1, [.ref o1, .ref o2, .long (bw_q f1 co (bw_nc so T))])), (q, .inr (1, [.ref q1, .ref q2, .long cb])), (r, .inr (0, [.ref r1])), (o1, .inl (cL, 40, .inr (.inl so))), (o2, .inl (cL, 40, .inr (.inl (bw_q f1 go (bw_ng so T go))))), (q1, .inl (cL, 40, .inr (.inl sb))), (q2, .inl (cL, 40, .inr (.inl gb))), (r1, .inl (cL, 40, .inr (.inl (bw_q f1 bl (bw_nl so sb T go bl)))))]) (va_A [(x, .inr (2, [.long T, .ref t1, .ref o, .ref q, .ref r, .int f1, .int f2])), (t1, .inl (cI, 40, .inl tc)), (o, .inr (1, [.ref o1, .ref o2, .long co])), (q, .inr (1, [.ref q1, .ref q2, .long cb])), (r, .inr (0, [.ref r1])), (o1, .inl (cL, 40, .inr (.inl so))), (o2, .inl (cL, 40, .inr (.inl go))), (q1, .inl (cL, 40, .inr (.inl sb))), (q2, .inl (cL, 40, .inr (.inl gb))), (r1, .inl (cL, 40, .inr (.inl bl)))] sz)) 0 0 (va_A [(x, .inr (2, [.long T, .ref t1, .ref o, .ref q, .ref r, .int f1, .int f2])), (t1, .inl (cI, 40, .inl tc)), (o, .inr (1, [.ref o1, .ref o2, .long co])), (q, .inr (1, [.ref q1, .ref q2, .long cb])), (r, .inr (0, [.ref r1])), (o1, .inl (cL, 40, .inr (.inl so))), (o2, .inl (cL, 40, .inr (.inl go))), (q1, .inl (cL, 40, .inr (.inl sb))), (q2, .inl (cL, 40, .inr (.inl gb))), (r1, .inl (cL, 40, .inr (.inl bl)))] sz) := by
  refine Met.ofW (cc := cB_freshRounds) (maxL := 1) (ret := (some (.object "BlockWays$Rounds"))) (by decide) rfl ?_
  intro p e s m args below meth c s₁ B hml hv
  obtain ⟨rfl, hsz, hP, hK, hN, hD0⟩ := hv
  have hx := B.exec
  have hb := B.bytes
  have hr := B.returns
  have hts := atoms_spec (ws := wsB_freshRounds) B.pre
  have hT : ∀ w ∈ bwB, w.before _ s = true := fun w h => hts w (List.mem_cons_of_mem _ h)
  have hown : s.vm.findClass RB = some m.cls := findClass_of_methodNamed B.named
  have hlocks := B.notSynchronized
  subst hsz
  have hD := hD0.self (sz := s.heap.size)
  generalize hAe : va_A [(x, .inr (2, [.long T, .ref t1, .ref o, .ref q, .ref r, .int f1, .int f2])), (t1, .inl (cI, 40, .inl tc)), (o, .inr (1, [.ref o1, .ref o2, .long co])), (q, .inr (1, [.ref q1, .ref q2, .long cb])), (r, .inr (0, [.ref r1])), (o1, .inl (cL, 40, .inr (.inl so))), (o2, .inl (cL, 40, .inr (.inl go))), (q1, .inl (cL, 40, .inr (.inl sb))), (q2, .inl (cL, 40, .inr (.inl gb))), (r1, .inl (cL, 40, .inr (.inl bl)))] s.heap.size = A at hD ⊢
  have hA : ∀ q : Nat, s.heap.size ≤ q → A q := fun q h => by rw [← hAe]; exact Or.inr h
  have hS : va_S A s.heap s.heap [] := va_S.rf
  have hP : va_P (dC, dI) vwCl [(x, .inr (2, [.long T, .ref t1, .ref o, .ref q, .ref r, .int f1, .int f2])), (t1, .inl (cI, 40, .inl tc)), (o, .inr (1, [.ref o1, .ref o2, .long co])), (q, .inr (1, [.ref q1, .ref q2, .long cb])), (r, .inr (0, [.ref r1])), (o1, .inl (cL, 40, .inr (.inl so))), (o2, .inl (cL, 40, .inr (.inl go))), (q1, .inl (cL, 40, .inr (.inl sb))), (q2, .inl (cL, 40, .inr (.inl gb))), (r1, .inl (cL, 40, .inr (.inl bl)))] s.heap := hP
  have hl := lv_entry ([.ref x]) (n := 1) (Nat.le_of_ble_eq_true rfl)
  rw [lg_entry_eq]
  generalize (lg_sl ([.ref x]) ++ List.replicate (1 - (lg_sl ([.ref x])).length) Slot.unset).toArray = ls at hl ⊢
  have hl : lv_has ls 1 [(0, .ref x)] := hl
  refine lv_aload_n hx hb dB_freshRounds_0 rfl (lv_at hl 0 rfl) ?_
  have hPc := hP.sub (ws' := [(x, .inr (2, [.long T, .ref t1, .ref o, .ref q, .ref r, .int f1, .int f2])), (t1, .inl (cI, 40, .inl tc)), (o, .inr (1, [.ref o1, .ref o2, .long co])), (q, .inr (1, [.ref q1, .ref q2, .long cb])), (r, .inr (0, [.ref r1])), (o1, .inl (cL, 40, .inr (.inl so))), (o2, .inl (cL, 40, .inr (.inl go))), (q1, .inl (cL, 40, .inr (.inl sb))), (q2, .inl (cL, 40, .inr (.inl gb))), (r1, .inl (cL, 40, .inr (.inl bl)))]) [0, 1, 2, 3, 4, 5, 6, 7, 8, 9] rfl
  have hDc := hD.sub (ws' := [(x, .inr (2, [.long T, .ref t1, .ref o, .ref q, .ref r, .int f1, .int f2])), (t1, .inl (cI, 40, .inl tc)), (o, .inr (1, [.ref o1, .ref o2, .long co])), (q, .inr (1, [.ref q1, .ref q2, .long cb])), (r, .inr (0, [.ref r1])), (o1, .inl (cL, 40, .inr (.inl so))), (o2, .inl (cL, 40, .inr (.inl go))), (q1, .inl (cL, 40, .inr (.inl sb))), (q2, .inl (cL, 40, .inr (.inl gb))), (r1, .inl (cL, 40, .inr (.inl bl)))]) [0, 1, 2, 3, 4, 5, 6, 7, 8, 9] (by decide) rfl
  have hKc := hK.sub (tys' := [(cI, .int), (cL, .long)]) [0, 1] rfl
  have hFc := va_free (wc := [(x, .inr (2, [.long T, .ref t1, .ref o, .ref q, .ref r, .int f1, .int f2])), (t1, .inl (cI, 40, .inl tc)), (o, .inr (1, [.ref o1, .ref o2, .long co])), (q, .inr (1, [.ref q1, .ref q2, .long cb])), (r, .inr (0, [.ref r1])), (o1, .inl (cL, 40, .inr (.inl so))), (o2, .inl (cL, 40, .inr (.inl go))), (q1, .inl (cL, 40, .inr (.inl sb))), (q2, .inl (cL, 40, .inr (.inl gb))), (r1, .inl (cL, 40, .inr (.inl bl)))]) hD hS hA [0, 1, 2, 3, 4, 5, 6, 7, 8, 9] rfl
  refine va_callv (va_runV (As := []) (rest := []) ⟨hx, hb, hml, hown, hT⟩ (c_renewOnward l dC dI x t1 o o1 o2 q q1 q2 r r1 cI cL T tc so go co sb gb cb bl f1 f2 s.heap.size) (cwV 0 hT g_B_136 rfl rfl rfl (by decide +kernel) ⟨Nat.le_of_ble_eq_true rfl, Nat.le_of_ble_eq_true rfl⟩) (bw_qV hPc hKc hN hDc (ci := 2) (q0 := 0) rfl rfl) rfl rfl hl.1 rfl (lv_room (Nat.le_of_ble_eq_true rfl)) dB_freshRounds_1 ⟨Nat.le_of_ble_eq_true rfl, Nat.le_of_ble_eq_true rfl⟩) hS (fun q _ h => hFc q h) hFc (fun u_1 t_1 H1 locs ht hvm hw_1 hB hz1 hk1 hS => ?_)
  obtain ⟨hP1, hD1⟩ := hB
  rw [ht] at hP1
  obtain ⟨hP, hD⟩ := va_join (wr := []) (w1 := [(x, .inr (2, [.long T, .ref t1, .ref o, .ref q, .ref r, .int 0, .int f2])), (t1, .inl (cI, 40, .inl tc)), (o, .inr (1, [.ref o1, .ref o2, .long (bw_q f1 co (bw_nc so T))])), (q, .inr (1, [.ref q1, .ref q2, .long cb])), (r, .inr (0, [.ref r1])), (o1, .inl (cL, 40, .inr (.inl so))), (o2, .inl (cL, 40, .inr (.inl (bw_q f1 go (bw_ng so T go))))), (q1, .inl (cL, 40, .inr (.inl sb))), (q2, .inl (cL, 40, .inr (.inl gb))), (r1, .inl (cL, 40, .inr (.inl (bw_q f1 bl (bw_nl so sb T go bl)))))]) hP hD [0, 1, 2, 3, 4, 5, 6, 7, 8, 9] [] rfl rfl (by decide) (by decide) hk1 hFc hP1 hD1
  generalize H1 = H at hP hS ⊢
  have hP : va_P (dC, dI) vwCl [(x, .inr (2, [.long T, .ref t1, .ref o, .ref q, .ref r, .int 0, .int f2])), (t1, .inl (cI, 40, .inl tc)), (o, .inr (1, [.ref o1, .ref o2, .long (bw_q f1 co (bw_nc so T))])), (q, .inr (1, [.ref q1, .ref q2, .long cb])), (r, .inr (0, [.ref r1])), (o1, .inl (cL, 40, .inr (.inl so))), (o2, .inl (cL, 40, .inr (.inl (bw_q f1 go (bw_ng so T go))))), (q1, .inl (cL, 40, .inr (.inl sb))), (q2, .inl (cL, 40, .inr (.inl gb))), (r1, .inl (cL, 40, .inr (.inl (bw_q f1 bl (bw_nl so sb T go bl)))))] H := hP
  have hD : va_D A [(x, .inr (2, [.long T, .ref t1, .ref o, .ref q, .ref r, .int 0, .int f2])), (t1, .inl (cI, 40, .inl tc)), (o, .inr (1, [.ref o1, .ref o2, .long (bw_q f1 co (bw_nc so T))])), (q, .inr (1, [.ref q1, .ref q2, .long cb])), (r, .inr (0, [.ref r1])), (o1, .inl (cL, 40, .inr (.inl so))), (o2, .inl (cL, 40, .inr (.inl (bw_q f1 go (bw_ng so T go))))), (q1, .inl (cL, 40, .inr (.inl sb))), (q2, .inl (cL, 40, .inr (.inl gb))), (r1, .inl (cL, 40, .inr (.inl (bw_q f1 bl (bw_nl so sb T go bl)))))] := hD
  refine lv_aload_n hx hb dB_freshRounds_4 rfl (lv_at hl 0 rfl) ?_
  refine va_get (D := (dC, dI)) (ci := 2) (v := .ref r) (C := RB) (T := TB) (N := 7) hx hb hT inB hown hK hP 0 rfl rfl 4 (by decide) (hT _ hw_68) (fun _ h9 => h9) rfl dB_freshRounds_5 ?_
  have hP9 := hP.sub (ws' := [(x, .inr (2, [.long T, .ref t1, .ref o, .ref q, .ref r, .int 0, .int f2])), (t1, .inl (cI, 40, .inl tc)), (o, .inr (1, [.ref o1, .ref o2, .long (bw_q f1 co (bw_nc so T))])), (q, .inr (1, [.ref q1, .ref q2, .long cb])), (r, .inr (0, [.ref r1])), (o1, .inl (cL, 40, .inr (.inl so))), (o2, .inl (cL, 40, .inr (.inl (bw_q f1 go (bw_ng so T go))))), (q1, .inl (cL, 40, .inr (.inl sb))), (q2, .inl (cL, 40, .inr (.inl gb))), (r1, .inl (cL, 40, .inr (.inl (bw_q f1 bl (bw_nl so sb T go bl)))))]) [0, 1, 2, 3, 4, 5, 6, 7, 8, 9] rfl
  have hD9 := hD.sub (ws' := [(x, .inr (2, [.long T, .ref t1, .ref o, .ref q, .ref r, .int 0, .int f2])), (t1, .inl (cI, 40, .inl tc)), (o, .inr (1, [.ref o1, .ref o2, .long (bw_q f1 co (bw_nc so T))])), (q, .inr (1, [.ref q1, .ref q2, .long cb])), (r, .inr (0, [.ref r1])), (o1, .inl (cL, 40, .inr (.inl so))), (o2, .inl (cL, 40, .inr (.inl (bw_q f1 go (bw_ng so T go))))), (q1, .inl (cL, 40, .inr (.inl sb))), (q2, .inl (cL, 40, .inr (.inl gb))), (r1, .inl (cL, 40, .inr (.inl (bw_q f1 bl (bw_nl so sb T go bl)))))]) [0, 1, 2, 3, 4, 5, 6, 7, 8, 9] (by decide) rfl
  exact W.aret (v := .ref r) hx hb hr (Or.inl ⟨_, rfl⟩) (Or.inr ⟨_, rfl⟩) (fun t9 ht9 hW9 => ⟨⟨(), _, rfl, trivial, rfl, by rw [ht9]; exact hP9, by exact hD9⟩, hS.F ht9⟩) hS.2.2 dB_freshRounds_8
set_option maxHeartbeats 4000000 in
set_option maxRecDepth 100000 in
theorem c_rO0 (l : Launch) (dC : Nat → ClassId) (dI : Nat → Nat → Nat) (x t1 o o1 o2 q q1 q2 r r1 : Nat) (cI cL : ClassId) (T : Int64) (tc : Nat → Int32) (so go : Nat → Int64) (co : Int64) (sb gb : Nat → Int64) (cb : Int64) (bl : Nat → Int64) (f2 : Int32) (sz : Nat) : Met l yB_renewOnward wsB_renewOnward ({ frames := 4, cells := 0, slots := 0, locals := 101 } : Room) (bw_Wr (dC, dI) [(cI, .int), (cL, .long)] [(x, .inr (2, [.long T, .ref t1, .ref o, .ref q, .ref r, .int 0, .int f2])), (t1, .inl (cI, 40, .inl tc)), (o, .inr (1, [.ref o1, .ref o2, .long co])), (q, .inr (1, [.ref q1, .ref q2, .long cb])), (r, .inr (0, [.ref r1])), (o1, .inl (cL, 40, .inr (.inl so))), (o2, .inl (cL, 40, .inr (.inl go))), (q1, .inl (cL, 40, .inr (.inl sb))), (q2, .inl (cL, 40, .inr (.inl gb))), (r1, .inl (cL, 40, .inr (.inl bl)))] sz [.ref x]) (va_Qv (S := Unit) (fun _ => True) (fun (_ : Unit) t => va_P (dC, dI) vwCl [(x, .inr (2, [.long T, .ref t1, .ref o, .ref q, .ref r, .int 0, .int f2])), (t1, .inl (cI, 40, .inl tc)), (o, .inr (1, [.ref o1, .ref o2, .long co])), (q, .inr (1, [.ref q1, .ref q2, .long cb])), (r, .inr (0, [.ref r1])), (o1, .inl (cL, 40, .inr (.inl so))), (o2, .inl (cL, 40, .inr (.inl go))), (q1, .inl (cL, 40, .inr (.inl sb))), (q2, .inl (cL, 40, .inr (.inl gb))), (r1, .inl (cL, 40, .inr (.inl bl)))] t.heap ∧ va_D (va_A [(x, .inr (2, [.long T, .ref t1, .ref o, .ref q, .ref r, .int 0, .int f2])), (t1, .inl (cI, 40, .inl tc)), (o, .inr (1, [.ref o1, .ref o2, .long co])), (q, .inr (1, [.ref q1, .ref q2, .long cb])), (r, .inr (0, [.ref r1])), (o1, .inl (cL, 40, .inr (.inl so))), (o2, .inl (cL, 40, .inr (.inl go))), (q1, .inl (cL, 40, .inr (.inl sb))), (q2, .inl (cL, 40, .inr (.inl gb))), (r1, .inl (cL, 40, .inr (.inl bl)))] sz) [(x, .inr (2, [.long T, .ref t1, .ref o, .ref q, .ref r, .int 0, .int f2])), (t1, .inl (cI, 40, .inl tc)), (o, .inr (1, [.ref o1, .ref o2, .long co])), (q, .inr (1, [.ref q1, .ref q2, .long cb])), (r, .inr (0, [.ref r1])), (o1, .inl (cL, 40, .inr (.inl so))), (o2, .inl (cL, 40, .inr (.inl go))), (q1, .inl (cL, 40, .inr (.inl sb))), (q2, .inl (cL, 40, .inr (.inl gb))), (r1, .inl (cL, 40, .inr (.inl bl)))]) (va_A [(x, .inr (2, [.long T, .ref t1, .ref o, .ref q, .ref r, .int 0, .int f2])), (t1, .inl (cI, 40, .inl tc)), (o, .inr (1, [.ref o1, .ref o2, .long co])), (q, .inr (1, [.ref q1, .ref q2, .long cb])), (r, .inr (0, [.ref r1])), (o1, .inl (cL, 40, .inr (.inl so))), (o2, .inl (cL, 40, .inr (.inl go))), (q1, .inl (cL, 40, .inr (.inl sb))), (q2, .inl (cL, 40, .inr (.inl gb))), (r1, .inl (cL, 40, .inr (.inl bl)))] sz)) 0 0 (va_A [(x, .inr (2, [.long T, .ref t1, .ref o, .ref q, .ref r, .int 0, .int f2])), (t1, .inl (cI, 40, .inl tc)), (o, .inr (1, [.ref o1, .ref o2, .long co])), (q, .inr (1, [.ref q1, .ref q2, .long cb])), (r, .inr (0, [.ref r1])), (o1, .inl (cL, 40, .inr (.inl so))), (o2, .inl (cL, 40, .inr (.inl go))), (q1, .inl (cL, 40, .inr (.inl sb))), (q2, .inl (cL, 40, .inr (.inl gb))), (r1, .inl (cL, 40, .inr (.inl bl)))] sz) := by
  refine Met.ofW (cc := cB_renewOnward) (maxL := 1) (ret := none) (by decide) rfl ?_
  intro p e s m args below meth c s₁ B hml hv
  obtain ⟨rfl, hsz, hP, hK, hN, hD0⟩ := hv
  have hx := B.exec
  have hb := B.bytes
  have hr := B.returns
  have hts := atoms_spec (ws := wsB_renewOnward) B.pre
  have hT : ∀ w ∈ bwB, w.before _ s = true := fun w h => hts w (List.mem_cons_of_mem _ h)
  have hown : s.vm.findClass RB = some m.cls := findClass_of_methodNamed B.named
  have hlocks := B.notSynchronized
  subst hsz
  have hD := hD0.self (sz := s.heap.size)
  generalize hAe : va_A [(x, .inr (2, [.long T, .ref t1, .ref o, .ref q, .ref r, .int 0, .int f2])), (t1, .inl (cI, 40, .inl tc)), (o, .inr (1, [.ref o1, .ref o2, .long co])), (q, .inr (1, [.ref q1, .ref q2, .long cb])), (r, .inr (0, [.ref r1])), (o1, .inl (cL, 40, .inr (.inl so))), (o2, .inl (cL, 40, .inr (.inl go))), (q1, .inl (cL, 40, .inr (.inl sb))), (q2, .inl (cL, 40, .inr (.inl gb))), (r1, .inl (cL, 40, .inr (.inl bl)))] s.heap.size = A at hD ⊢
  have hA : ∀ q : Nat, s.heap.size ≤ q → A q := fun q h => by rw [← hAe]; exact Or.inr h
  have hS : va_S A s.heap s.heap [] := va_S.rf
  have hP : va_P (dC, dI) vwCl [(x, .inr (2, [.long T, .ref t1, .ref o, .ref q, .ref r, .int 0, .int f2])), (t1, .inl (cI, 40, .inl tc)), (o, .inr (1, [.ref o1, .ref o2, .long co])), (q, .inr (1, [.ref q1, .ref q2, .long cb])), (r, .inr (0, [.ref r1])), (o1, .inl (cL, 40, .inr (.inl so))), (o2, .inl (cL, 40, .inr (.inl go))), (q1, .inl (cL, 40, .inr (.inl sb))), (q2, .inl (cL, 40, .inr (.inl gb))), (r1, .inl (cL, 40, .inr (.inl bl)))] s.heap := hP
  have hl := lv_entry ([.ref x]) (n := 1) (Nat.le_of_ble_eq_true rfl)
  rw [lg_entry_eq]
  generalize (lg_sl ([.ref x]) ++ List.replicate (1 - (lg_sl ([.ref x])).length) Slot.unset).toArray = ls at hl ⊢
  have hl : lv_has ls 1 [(0, .ref x)] := hl
  refine lv_aload_n hx hb dB_renewOnward_0 rfl (lv_at hl 0 rfl) ?_
  refine va_get (D := (dC, dI)) (ci := 2) (v := .int 0) (C := RB) (T := TB) (N := 7) hx hb hT inB hown hK hP 0 rfl rfl 5 (by decide) (hT _ hw_69) (fun _ h9 => h9) rfl dB_renewOnward_1 ?_
  refine lv_if_eq (tgt := 42) hx hb dB_renewOnward_4 (by decide) (fun c_1 => ?_) (fun c_1 => ?_)
  · skip
    have hP9 := hP.sub (ws' := [(x, .inr (2, [.long T, .ref t1, .ref o, .ref q, .ref r, .int 0, .int f2])), (t1, .inl (cI, 40, .inl tc)), (o, .inr (1, [.ref o1, .ref o2, .long co])), (q, .inr (1, [.ref q1, .ref q2, .long cb])), (r, .inr (0, [.ref r1])), (o1, .inl (cL, 40, .inr (.inl so))), (o2, .inl (cL, 40, .inr (.inl go))), (q1, .inl (cL, 40, .inr (.inl sb))), (q2, .inl (cL, 40, .inr (.inl gb))), (r1, .inl (cL, 40, .inr (.inl bl)))]) [0, 1, 2, 3, 4, 5, 6, 7, 8, 9] rfl
    have hD9 := hD.sub (ws' := [(x, .inr (2, [.long T, .ref t1, .ref o, .ref q, .ref r, .int 0, .int f2])), (t1, .inl (cI, 40, .inl tc)), (o, .inr (1, [.ref o1, .ref o2, .long co])), (q, .inr (1, [.ref q1, .ref q2, .long cb])), (r, .inr (0, [.ref r1])), (o1, .inl (cL, 40, .inr (.inl so))), (o2, .inl (cL, 40, .inr (.inl go))), (q1, .inl (cL, 40, .inr (.inl sb))), (q2, .inl (cL, 40, .inr (.inl gb))), (r1, .inl (cL, 40, .inr (.inl bl)))]) [0, 1, 2, 3, 4, 5, 6, 7, 8, 9] (by decide) rfl
    exact W.vret hx hb hr (fun t9 ht9 hW9 => ⟨⟨(), rfl, trivial, by rw [ht9]; exact hP9, by exact hD9⟩, hS.F ht9⟩) hS.2.2 dB_renewOnward_42
  · skip
    exact absurd rfl c_1
set_option maxHeartbeats 4000000 in
set_option maxRecDepth 100000 in
theorem c_fR0 (l : Launch) (dC : Nat → ClassId) (dI : Nat → Nat → Nat) (x t1 o o1 o2 q q1 q2 r r1 : Nat) (cI cL : ClassId) (T : Int64) (tc : Nat → Int32) (so go : Nat → Int64) (co : Int64) (sb gb : Nat → Int64) (cb : Int64) (bl : Nat → Int64) (f2 : Int32) (sz : Nat) : Met l yB_freshRounds wsB_freshRounds ({ frames := 5, cells := 0, slots := 0, locals := 121 } : Room) (bw_Wr (dC, dI) [(cI, .int), (cL, .long)] [(x, .inr (2, [.long T, .ref t1, .ref o, .ref q, .ref r, .int 0, .int f2])), (t1, .inl (cI, 40, .inl tc)), (o, .inr (1, [.ref o1, .ref o2, .long co])), (q, .inr (1, [.ref q1, .ref q2, .long cb])), (r, .inr (0, [.ref r1])), (o1, .inl (cL, 40, .inr (.inl so))), (o2, .inl (cL, 40, .inr (.inl go))), (q1, .inl (cL, 40, .inr (.inl sb))), (q2, .inl (cL, 40, .inr (.inl gb))), (r1, .inl (cL, 40, .inr (.inl bl)))] sz [.ref x]) (va_Qr (S := Unit) (fun _ => True) (fun (_ : Unit) (ra : Nat) t => ra = r ∧ va_P (dC, dI) vwCl [(x, .inr (2, [.long T, .ref t1, .ref o, .ref q, .ref r, .int 0, .int f2])), (t1, .inl (cI, 40, .inl tc)), (o, .inr (1, [.ref o1, .ref o2, .long co])), (q, .inr (1, [.ref q1, .ref q2, .long cb])), (r, .inr (0, [.ref r1])), (o1, .inl (cL, 40, .inr (.inl so))), (o2, .inl (cL, 40, .inr (.inl go))), (q1, .inl (cL, 40, .inr (.inl sb))), (q2, .inl (cL, 40, .inr (.inl gb))), (r1, .inl (cL, 40, .inr (.inl bl)))] t.heap ∧ va_D (va_A [(x, .inr (2, [.long T, .ref t1, .ref o, .ref q, .ref r, .int 0, .int f2])), (t1, .inl (cI, 40, .inl tc)), (o, .inr (1, [.ref o1, .ref o2, .long co])), (q, .inr (1, [.ref q1, .ref q2, .long cb])), (r, .inr (0, [.ref r1])), (o1, .inl (cL, 40, .inr (.inl so))), (o2, .inl (cL, 40, .inr (.inl go))), (q1, .inl (cL, 40, .inr (.inl sb))), (q2, .inl (cL, 40, .inr (.inl gb))), (r1, .inl (cL, 40, .inr (.inl bl)))] sz) [(x, .inr (2, [.long T, .ref t1, .ref o, .ref q, .ref r, .int 0, .int f2])), (t1, .inl (cI, 40, .inl tc)), (o, .inr (1, [.ref o1, .ref o2, .long co])), (q, .inr (1, [.ref q1, .ref q2, .long cb])), (r, .inr (0, [.ref r1])), (o1, .inl (cL, 40, .inr (.inl so))), (o2, .inl (cL, 40, .inr (.inl go))), (q1, .inl (cL, 40, .inr (.inl sb))), (q2, .inl (cL, 40, .inr (.inl gb))), (r1, .inl (cL, 40, .inr (.inl bl)))]) (va_A [(x, .inr (2, [.long T, .ref t1, .ref o, .ref q, .ref r, .int 0, .int f2])), (t1, .inl (cI, 40, .inl tc)), (o, .inr (1, [.ref o1, .ref o2, .long co])), (q, .inr (1, [.ref q1, .ref q2, .long cb])), (r, .inr (0, [.ref r1])), (o1, .inl (cL, 40, .inr (.inl so))), (o2, .inl (cL, 40, .inr (.inl go))), (q1, .inl (cL, 40, .inr (.inl sb))), (q2, .inl (cL, 40, .inr (.inl gb))), (r1, .inl (cL, 40, .inr (.inl bl)))] sz)) 0 0 (va_A [(x, .inr (2, [.long T, .ref t1, .ref o, .ref q, .ref r, .int 0, .int f2])), (t1, .inl (cI, 40, .inl tc)), (o, .inr (1, [.ref o1, .ref o2, .long co])), (q, .inr (1, [.ref q1, .ref q2, .long cb])), (r, .inr (0, [.ref r1])), (o1, .inl (cL, 40, .inr (.inl so))), (o2, .inl (cL, 40, .inr (.inl go))), (q1, .inl (cL, 40, .inr (.inl sb))), (q2, .inl (cL, 40, .inr (.inl gb))), (r1, .inl (cL, 40, .inr (.inl bl)))] sz) := by
  refine Met.ofW (cc := cB_freshRounds) (maxL := 1) (ret := (some (.object "BlockWays$Rounds"))) (by decide) rfl ?_
  intro p e s m args below meth c s₁ B hml hv
  obtain ⟨rfl, hsz, hP, hK, hN, hD0⟩ := hv
  have hx := B.exec
  have hb := B.bytes
  have hr := B.returns
  have hts := atoms_spec (ws := wsB_freshRounds) B.pre
  have hT : ∀ w ∈ bwB, w.before _ s = true := fun w h => hts w (List.mem_cons_of_mem _ h)
  have hown : s.vm.findClass RB = some m.cls := findClass_of_methodNamed B.named
  have hlocks := B.notSynchronized
  subst hsz
  have hD := hD0.self (sz := s.heap.size)
  generalize hAe : va_A [(x, .inr (2, [.long T, .ref t1, .ref o, .ref q, .ref r, .int 0, .int f2])), (t1, .inl (cI, 40, .inl tc)), (o, .inr (1, [.ref o1, .ref o2, .long co])), (q, .inr (1, [.ref q1, .ref q2, .long cb])), (r, .inr (0, [.ref r1])), (o1, .inl (cL, 40, .inr (.inl so))), (o2, .inl (cL, 40, .inr (.inl go))), (q1, .inl (cL, 40, .inr (.inl sb))), (q2, .inl (cL, 40, .inr (.inl gb))), (r1, .inl (cL, 40, .inr (.inl bl)))] s.heap.size = A at hD ⊢
  have hA : ∀ q : Nat, s.heap.size ≤ q → A q := fun q h => by rw [← hAe]; exact Or.inr h
  have hS : va_S A s.heap s.heap [] := va_S.rf
  have hP : va_P (dC, dI) vwCl [(x, .inr (2, [.long T, .ref t1, .ref o, .ref q, .ref r, .int 0, .int f2])), (t1, .inl (cI, 40, .inl tc)), (o, .inr (1, [.ref o1, .ref o2, .long co])), (q, .inr (1, [.ref q1, .ref q2, .long cb])), (r, .inr (0, [.ref r1])), (o1, .inl (cL, 40, .inr (.inl so))), (o2, .inl (cL, 40, .inr (.inl go))), (q1, .inl (cL, 40, .inr (.inl sb))), (q2, .inl (cL, 40, .inr (.inl gb))), (r1, .inl (cL, 40, .inr (.inl bl)))] s.heap := hP
  have hl := lv_entry ([.ref x]) (n := 1) (Nat.le_of_ble_eq_true rfl)
  rw [lg_entry_eq]
  generalize (lg_sl ([.ref x]) ++ List.replicate (1 - (lg_sl ([.ref x])).length) Slot.unset).toArray = ls at hl ⊢
  have hl : lv_has ls 1 [(0, .ref x)] := hl
  refine lv_aload_n hx hb dB_freshRounds_0 rfl (lv_at hl 0 rfl) ?_
  have hPc := hP.sub (ws' := [(x, .inr (2, [.long T, .ref t1, .ref o, .ref q, .ref r, .int 0, .int f2])), (t1, .inl (cI, 40, .inl tc)), (o, .inr (1, [.ref o1, .ref o2, .long co])), (q, .inr (1, [.ref q1, .ref q2, .long cb])), (r, .inr (0, [.ref r1])), (o1, .inl (cL, 40, .inr (.inl so))), (o2, .inl (cL, 40, .inr (.inl go))), (q1, .inl (cL, 40, .inr (.inl sb))), (q2, .inl (cL, 40, .inr (.inl gb))), (r1, .inl (cL, 40, .inr (.inl bl)))]) [0, 1, 2, 3, 4, 5, 6, 7, 8, 9] rfl
  have hDc := hD.sub (ws' := [(x, .inr (2, [.long T, .ref t1, .ref o, .ref q, .ref r, .int 0, .int f2])), (t1, .inl (cI, 40, .inl tc)), (o, .inr (1, [.ref o1, .ref o2, .long co])), (q, .inr (1, [.ref q1, .ref q2, .long cb])), (r, .inr (0, [.ref r1])), (o1, .inl (cL, 40, .inr (.inl so))), (o2, .inl (cL, 40, .inr (.inl go))), (q1, .inl (cL, 40, .inr (.inl sb))), (q2, .inl (cL, 40, .inr (.inl gb))), (r1, .inl (cL, 40, .inr (.inl bl)))]) [0, 1, 2, 3, 4, 5, 6, 7, 8, 9] (by decide) rfl
  have hKc := hK.sub (tys' := [(cI, .int), (cL, .long)]) [0, 1] rfl
  have hFc := va_free (wc := [(x, .inr (2, [.long T, .ref t1, .ref o, .ref q, .ref r, .int 0, .int f2])), (t1, .inl (cI, 40, .inl tc)), (o, .inr (1, [.ref o1, .ref o2, .long co])), (q, .inr (1, [.ref q1, .ref q2, .long cb])), (r, .inr (0, [.ref r1])), (o1, .inl (cL, 40, .inr (.inl so))), (o2, .inl (cL, 40, .inr (.inl go))), (q1, .inl (cL, 40, .inr (.inl sb))), (q2, .inl (cL, 40, .inr (.inl gb))), (r1, .inl (cL, 40, .inr (.inl bl)))]) hD hS hA [0, 1, 2, 3, 4, 5, 6, 7, 8, 9] rfl
  refine va_callv (va_runV (As := []) (rest := []) ⟨hx, hb, hml, hown, hT⟩ (c_rO0 l dC dI x t1 o o1 o2 q q1 q2 r r1 cI cL T tc so go co sb gb cb bl f2 s.heap.size) (cwV 0 hT g_B_136 rfl rfl rfl (by decide +kernel) ⟨Nat.le_of_ble_eq_true rfl, Nat.le_of_ble_eq_true rfl⟩) (bw_qV hPc hKc hN hDc (ci := 2) (q0 := 0) rfl rfl) rfl rfl hl.1 rfl (lv_room (Nat.le_of_ble_eq_true rfl)) dB_freshRounds_1 ⟨Nat.le_of_ble_eq_true rfl, Nat.le_of_ble_eq_true rfl⟩) hS (fun q _ h => hFc q h) hFc (fun u_1 t_1 H1 locs ht hvm hw_1 hB hz1 hk1 hS => ?_)
  obtain ⟨hP1, hD1⟩ := hB
  rw [ht] at hP1
  obtain ⟨hP, hD⟩ := va_join (wr := []) (w1 := [(x, .inr (2, [.long T, .ref t1, .ref o, .ref q, .ref r, .int 0, .int f2])), (t1, .inl (cI, 40, .inl tc)), (o, .inr (1, [.ref o1, .ref o2, .long co])), (q, .inr (1, [.ref q1, .ref q2, .long cb])), (r, .inr (0, [.ref r1])), (o1, .inl (cL, 40, .inr (.inl so))), (o2, .inl (cL, 40, .inr (.inl go))), (q1, .inl (cL, 40, .inr (.inl sb))), (q2, .inl (cL, 40, .inr (.inl gb))), (r1, .inl (cL, 40, .inr (.inl bl)))]) hP hD [0, 1, 2, 3, 4, 5, 6, 7, 8, 9] [] rfl rfl (by decide) (by decide) hk1 hFc hP1 hD1
  generalize H1 = H at hP hS ⊢
  have hP : va_P (dC, dI) vwCl [(x, .inr (2, [.long T, .ref t1, .ref o, .ref q, .ref r, .int 0, .int f2])), (t1, .inl (cI, 40, .inl tc)), (o, .inr (1, [.ref o1, .ref o2, .long co])), (q, .inr (1, [.ref q1, .ref q2, .long cb])), (r, .inr (0, [.ref r1])), (o1, .inl (cL, 40, .inr (.inl so))), (o2, .inl (cL, 40, .inr (.inl go))), (q1, .inl (cL, 40, .inr (.inl sb))), (q2, .inl (cL, 40, .inr (.inl gb))), (r1, .inl (cL, 40, .inr (.inl bl)))] H := hP
  have hD : va_D A [(x, .inr (2, [.long T, .ref t1, .ref o, .ref q, .ref r, .int 0, .int f2])), (t1, .inl (cI, 40, .inl tc)), (o, .inr (1, [.ref o1, .ref o2, .long co])), (q, .inr (1, [.ref q1, .ref q2, .long cb])), (r, .inr (0, [.ref r1])), (o1, .inl (cL, 40, .inr (.inl so))), (o2, .inl (cL, 40, .inr (.inl go))), (q1, .inl (cL, 40, .inr (.inl sb))), (q2, .inl (cL, 40, .inr (.inl gb))), (r1, .inl (cL, 40, .inr (.inl bl)))] := hD
  refine lv_aload_n hx hb dB_freshRounds_4 rfl (lv_at hl 0 rfl) ?_
  refine va_get (D := (dC, dI)) (ci := 2) (v := .ref r) (C := RB) (T := TB) (N := 7) hx hb hT inB hown hK hP 0 rfl rfl 4 (by decide) (hT _ hw_68) (fun _ h9 => h9) rfl dB_freshRounds_5 ?_
  have hP9 := hP.sub (ws' := [(x, .inr (2, [.long T, .ref t1, .ref o, .ref q, .ref r, .int 0, .int f2])), (t1, .inl (cI, 40, .inl tc)), (o, .inr (1, [.ref o1, .ref o2, .long co])), (q, .inr (1, [.ref q1, .ref q2, .long cb])), (r, .inr (0, [.ref r1])), (o1, .inl (cL, 40, .inr (.inl so))), (o2, .inl (cL, 40, .inr (.inl go))), (q1, .inl (cL, 40, .inr (.inl sb))), (q2, .inl (cL, 40, .inr (.inl gb))), (r1, .inl (cL, 40, .inr (.inl bl)))]) [0, 1, 2, 3, 4, 5, 6, 7, 8, 9] rfl
  have hD9 := hD.sub (ws' := [(x, .inr (2, [.long T, .ref t1, .ref o, .ref q, .ref r, .int 0, .int f2])), (t1, .inl (cI, 40, .inl tc)), (o, .inr (1, [.ref o1, .ref o2, .long co])), (q, .inr (1, [.ref q1, .ref q2, .long cb])), (r, .inr (0, [.ref r1])), (o1, .inl (cL, 40, .inr (.inl so))), (o2, .inl (cL, 40, .inr (.inl go))), (q1, .inl (cL, 40, .inr (.inl sb))), (q2, .inl (cL, 40, .inr (.inl gb))), (r1, .inl (cL, 40, .inr (.inl bl)))]) [0, 1, 2, 3, 4, 5, 6, 7, 8, 9] (by decide) rfl
  exact W.aret (v := .ref r) hx hb hr (Or.inl ⟨_, rfl⟩) (Or.inr ⟨_, rfl⟩) (fun t9 ht9 hW9 => ⟨⟨(), _, rfl, trivial, rfl, by rw [ht9]; exact hP9, by exact hD9⟩, hS.F ht9⟩) hS.2.2 dB_freshRounds_8
set_option maxHeartbeats 4000000 in
set_option maxRecDepth 100000 in
theorem c_freshBackward (l : Launch) (dC : Nat → ClassId) (dI : Nat → Nat → Nat) (x t1 o o1 o2 q q1 q2 r r1 : Nat) (cI cL : ClassId) (T : Int64) (tc : Nat → Int32) (so go : Nat → Int64) (co : Int64) (sb gb : Nat → Int64) (cb : Int64) (bl : Nat → Int64) (f1 f2 : Int32) (sz : Nat) : Met l yB_freshBackward wsB_freshBackward ({ frames := 4, cells := 0, slots := 0, locals := 100 } : Room) (bw_Wr (dC, dI) [(cI, .int), (cL, .long)] [(x, .inr (2, [.long T, .ref t1, .ref o, .ref q, .ref r, .int f1, .int f2])), (t1, .inl (cI, 40, .inl tc)), (o, .inr (1, [.ref o1, .ref o2, .long co])), (q, .inr (1, [.ref q1, .ref q2, .long cb])), (r, .inr (0, [.ref r1])), (o1, .inl (cL, 40, .inr (.inl so))), (o2, .inl (cL, 40, .inr (.inl go))), (q1, .inl (cL, 40, .inr (.inl sb))), (q2, .inl (cL, 40, .inr (.inl gb))), (r1, .inl (cL, 40, .inr (.inl bl)))] sz [.ref x]) (va_Qr (S := Unit) (fun _ => True) (fun (_ : Unit) (ra : Nat) t => ra = q ∧ va_P (dC, dI) vwCl [(x, .inr (2, [.long T, .ref t1, .ref o, .ref q, .ref r, .int f1, .int 0])), (t1, .inl (cI, 40, .inl tc)), (o, .inr (1, [.ref o1, .ref o2, .long co])), (q, .inr (1, [.ref q1, .ref q2, .long (bw_q f2 cb (bw_mc sb T tc))])), (r, .inr (0, [.ref r1])), (o1, .inl (cL, 40, .inr (.inl so))), (o2, .inl (cL, 40, .inr (.inl go))), (q1, .inl (cL, 40, .inr (.inl sb))), (q2, .inl (cL, 40, .inr (.inl (bw_q f2 gb (bw_mg sb T tc gb))))), (r1, .inl (cL, 40, .inr (.inl bl)))] t.heap ∧ va_D (va_A [(x, .inr (2, [.long T, .ref t1, .ref o, .ref q, .ref r, .int f1, .int f2])), (t1, .inl (cI, 40, .inl tc)), (o, .inr (1, [.ref o1, .ref o2, .long co])), (q, .inr (1, [.ref q1, .ref q2, .long cb])), (r, .inr (0, [.ref r1])), (o1, .inl (cL, 40, .inr (.inl so))), (o2, .inl (cL, 40, .inr (.inl go))), (q1, .inl (cL, 40, .inr (.inl sb))), (q2, .inl (cL, 40, .inr (.inl gb))), (r1, .inl (cL, 40, .inr (.inl bl)))] sz) [(x, .inr (2, [.long T, .ref t1, .ref o, .ref q, .ref r, .int f1, .int 0])), (t1, .inl (cI, 40, .inl tc)), (o, .inr (1, [.ref o1, .ref o2, .long co])), (q, .inr (1, [.ref q1, .ref q2, .long (bw_q f2 cb (bw_mc sb T tc))])), (r, .inr (0, [.ref r1])), (o1, .inl (cL, 40, .inr (.inl so))), (o2, .inl (cL, 40, .inr (.inl go))), (q1, .inl (cL, 40, .inr (.inl sb))), (q2, .inl (cL, 40, .inr (.inl (bw_q f2 gb (bw_mg sb T tc gb))))), (r1, .inl (cL, 40, .inr (.inl bl)))]) (va_A [(x, .inr (2, [.long T, .ref t1, .ref o, .ref q, .ref r, .int f1, .int f2])), (t1, .inl (cI, 40, .inl tc)), (o, .inr (1, [.ref o1, .ref o2, .long co])), (q, .inr (1, [.ref q1, .ref q2, .long cb])), (r, .inr (0, [.ref r1])), (o1, .inl (cL, 40, .inr (.inl so))), (o2, .inl (cL, 40, .inr (.inl go))), (q1, .inl (cL, 40, .inr (.inl sb))), (q2, .inl (cL, 40, .inr (.inl gb))), (r1, .inl (cL, 40, .inr (.inl bl)))] sz)) 0 0 (va_A [(x, .inr (2, [.long T, .ref t1, .ref o, .ref q, .ref r, .int f1, .int f2])), (t1, .inl (cI, 40, .inl tc)), (o, .inr (1, [.ref o1, .ref o2, .long co])), (q, .inr (1, [.ref q1, .ref q2, .long cb])), (r, .inr (0, [.ref r1])), (o1, .inl (cL, 40, .inr (.inl so))), (o2, .inl (cL, 40, .inr (.inl go))), (q1, .inl (cL, 40, .inr (.inl sb))), (q2, .inl (cL, 40, .inr (.inl gb))), (r1, .inl (cL, 40, .inr (.inl bl)))] sz) := by
  refine Met.ofW (cc := cB_freshBackward) (maxL := 1) (ret := (some (.object "BlockWays$Spread"))) (by decide) rfl ?_
  intro p e s m args below meth c s₁ B hml hv
  obtain ⟨rfl, hsz, hP, hK, hN, hD0⟩ := hv
  have hx := B.exec
  have hb := B.bytes
  have hr := B.returns
  have hts := atoms_spec (ws := wsB_freshBackward) B.pre
  have hT : ∀ w ∈ bwB, w.before _ s = true := fun w h => hts w (List.mem_cons_of_mem _ h)
  have hown : s.vm.findClass RB = some m.cls := findClass_of_methodNamed B.named
  have hlocks := B.notSynchronized
  subst hsz
  have hD := hD0.self (sz := s.heap.size)
  generalize hAe : va_A [(x, .inr (2, [.long T, .ref t1, .ref o, .ref q, .ref r, .int f1, .int f2])), (t1, .inl (cI, 40, .inl tc)), (o, .inr (1, [.ref o1, .ref o2, .long co])), (q, .inr (1, [.ref q1, .ref q2, .long cb])), (r, .inr (0, [.ref r1])), (o1, .inl (cL, 40, .inr (.inl so))), (o2, .inl (cL, 40, .inr (.inl go))), (q1, .inl (cL, 40, .inr (.inl sb))), (q2, .inl (cL, 40, .inr (.inl gb))), (r1, .inl (cL, 40, .inr (.inl bl)))] s.heap.size = A at hD ⊢
  have hA : ∀ q : Nat, s.heap.size ≤ q → A q := fun q h => by rw [← hAe]; exact Or.inr h
  have hS : va_S A s.heap s.heap [] := va_S.rf
  have hP : va_P (dC, dI) vwCl [(x, .inr (2, [.long T, .ref t1, .ref o, .ref q, .ref r, .int f1, .int f2])), (t1, .inl (cI, 40, .inl tc)), (o, .inr (1, [.ref o1, .ref o2, .long co])), (q, .inr (1, [.ref q1, .ref q2, .long cb])), (r, .inr (0, [.ref r1])), (o1, .inl (cL, 40, .inr (.inl so))), (o2, .inl (cL, 40, .inr (.inl go))), (q1, .inl (cL, 40, .inr (.inl sb))), (q2, .inl (cL, 40, .inr (.inl gb))), (r1, .inl (cL, 40, .inr (.inl bl)))] s.heap := hP
  have hl := lv_entry ([.ref x]) (n := 1) (Nat.le_of_ble_eq_true rfl)
  rw [lg_entry_eq]
  generalize (lg_sl ([.ref x]) ++ List.replicate (1 - (lg_sl ([.ref x])).length) Slot.unset).toArray = ls at hl ⊢
  have hl : lv_has ls 1 [(0, .ref x)] := hl
  refine lv_aload_n hx hb dB_freshBackward_0 rfl (lv_at hl 0 rfl) ?_
  refine va_get (D := (dC, dI)) (ci := 2) (v := .int f2) (C := RB) (T := TB) (N := 7) hx hb hT inB hown hK hP 0 rfl rfl 6 (by decide) (hT _ hw_70) (fun _ h9 => h9) rfl dB_freshBackward_1 ?_
  refine lv_if_eq (tgt := 27) hx hb dB_freshBackward_4 (by decide) (fun c_1 => ?_) (fun c_1 => ?_)
  · skip
    subst c_1
    refine lv_aload_n hx hb dB_freshBackward_27 rfl (lv_at hl 0 rfl) ?_
    refine va_get (D := (dC, dI)) (ci := 2) (v := .ref q) (C := RB) (T := TB) (N := 7) hx hb hT inB hown hK hP 0 rfl rfl 3 (by decide) (hT _ hw_67) (fun _ h9 => h9) rfl dB_freshBackward_28 ?_
    have hP9 := hP.sub (ws' := [(x, .inr (2, [.long T, .ref t1, .ref o, .ref q, .ref r, .int f1, .int 0])), (t1, .inl (cI, 40, .inl tc)), (o, .inr (1, [.ref o1, .ref o2, .long co])), (q, .inr (1, [.ref q1, .ref q2, .long cb])), (r, .inr (0, [.ref r1])), (o1, .inl (cL, 40, .inr (.inl so))), (o2, .inl (cL, 40, .inr (.inl go))), (q1, .inl (cL, 40, .inr (.inl sb))), (q2, .inl (cL, 40, .inr (.inl gb))), (r1, .inl (cL, 40, .inr (.inl bl)))]) [0, 1, 2, 3, 4, 5, 6, 7, 8, 9] rfl
    have hD9 := hD.sub (ws' := [(x, .inr (2, [.long T, .ref t1, .ref o, .ref q, .ref r, .int f1, .int 0])), (t1, .inl (cI, 40, .inl tc)), (o, .inr (1, [.ref o1, .ref o2, .long co])), (q, .inr (1, [.ref q1, .ref q2, .long cb])), (r, .inr (0, [.ref r1])), (o1, .inl (cL, 40, .inr (.inl so))), (o2, .inl (cL, 40, .inr (.inl go))), (q1, .inl (cL, 40, .inr (.inl sb))), (q2, .inl (cL, 40, .inr (.inl gb))), (r1, .inl (cL, 40, .inr (.inl bl)))]) [0, 1, 2, 3, 4, 5, 6, 7, 8, 9] (by decide) rfl
    exact W.aret (v := .ref q) hx hb hr (Or.inl ⟨_, rfl⟩) (Or.inr ⟨_, rfl⟩) (fun t9 ht9 hW9 => ⟨⟨(), _, rfl, trivial, rfl, by rw [ht9]; simp only [bw_q_t (rfl : (0 : Int32) = 0)]; exact hP9, by simp only [bw_q_t (rfl : (0 : Int32) = 0)]; exact hD9⟩, hS.F ht9⟩) hS.2.2 dB_freshBackward_31
  · skip
    refine lv_aload_n hx hb dB_freshBackward_7 rfl (lv_at hl 0 rfl) ?_
    refine va_get (D := (dC, dI)) (ci := 2) (v := .ref q) (C := RB) (T := TB) (N := 7) hx hb hT inB hown hK hP 0 rfl rfl 3 (by decide) (hT _ hw_67) (fun _ h9 => h9) rfl dB_freshBackward_8 ?_
    refine lv_aload_n hx hb dB_freshBackward_11 rfl (lv_at hl 0 rfl) ?_
    have hPc := hP.sub (ws' := [(x, .inr (2, [.long T, .ref t1, .ref o, .ref q, .ref r, .int f1, .int f2])), (t1, .inl (cI, 40, .inl tc))]) [0, 1] rfl
    have hKc := hK.sub (tys' := [(cI, .int)]) [0] rfl
    refine vp_callSl (W.runV (As := []) (rest := [.ref q]) ⟨hx, hb, hml, hown, hT⟩ (c_ends l dC dI x t1 o q r cI T tc f1 f2) (cwV 0 hT g_B_146 rfl rfl rfl (by decide +kernel) ⟨Nat.le_of_ble_eq_true rfl, Nat.le_of_ble_eq_true rfl⟩) (bw_pV hPc hKc hN (ci := 2) (q0 := 0) rfl rfl) rfl rfl hl.1 rfl (lv_room (Nat.le_of_ble_eq_true rfl)) dB_freshBackward_12 ⟨Nat.le_of_ble_eq_true rfl, Nat.le_of_ble_eq_true rfl⟩) (fun r_2 hr_2 => ?_)
    rw [hr_2]; clear hr_2
    refine lv_aload_n hx hb dB_freshBackward_15 rfl (lv_at hl 0 rfl) ?_
    refine va_get (D := (dC, dI)) (ci := 2) (v := .long T) (C := RB) (T := TB) (N := 7) hx hb hT inB hown hK hP 0 rfl rfl 0 (by decide) (hT _ hw_64) (fun _ h9 => h9) rfl dB_freshBackward_16 ?_
    have hPc := hP.sub (ws' := [(q, .inr (1, [.ref q1, .ref q2, .long cb])), (q1, .inl (cL, 40, .inr (.inl sb))), (q2, .inl (cL, 40, .inr (.inl gb)))]) [3, 7, 8] rfl
    have hDc := hD.sub (ws' := [(q, .inr (1, [.ref q1, .ref q2, .long cb])), (q1, .inl (cL, 40, .inr (.inl sb))), (q2, .inl (cL, 40, .inr (.inl gb)))]) [3, 7, 8] (by decide) rfl
    have hKc := hK.sub (tys' := [(cL, .long)]) [1] rfl
    have hFc := va_free (wc := [(q, .inr (1, [.ref q1, .ref q2, .long cb])), (q1, .inl (cL, 40, .inr (.inl sb))), (q2, .inl (cL, 40, .inr (.inl gb)))]) hD hS hA [3, 7, 8] rfl
    refine va_callv (va_runV (As := [.long (bw_ends T tc), .long T]) (rest := []) ⟨hx, hb, hml, hown, hT⟩ (c_renewS l dC dI q q1 q2 cL sb gb cb (bw_ends T tc) T s.heap.size) (cwV 2 hT g_B_139 rfl rfl rfl (by decide +kernel) ⟨Nat.le_of_ble_eq_true rfl, Nat.le_of_ble_eq_true rfl⟩) (bw_qV hPc hKc hN hDc (ci := 1) (q0 := 0) rfl rfl) rfl rfl hl.1 rfl (lv_room (Nat.le_of_ble_eq_true rfl)) dB_freshBackward_19 ⟨Nat.le_of_ble_eq_true rfl, Nat.le_of_ble_eq_true rfl⟩) hS (fun q _ h => hFc q h) hFc (fun u_3 t_3 H1 locs ht hvm hw_3 hB hz1 hk1 hS => ?_)
    obtain ⟨hP1, hD1⟩ := hB
    rw [ht] at hP1
    obtain ⟨hP, hD⟩ := va_join (wr := [(x, .inr (2, [.long T, .ref t1, .ref o, .ref q, .ref r, .int f1, .int f2])), (t1, .inl (cI, 40, .inl tc)), (o, .inr (1, [.ref o1, .ref o2, .long co])), (r, .inr (0, [.ref r1])), (o1, .inl (cL, 40, .inr (.inl so))), (o2, .inl (cL, 40, .inr (.inl go))), (r1, .inl (cL, 40, .inr (.inl bl)))]) (w1 := [(q, .inr (1, [.ref q1, .ref q2, .long (bw_flood sb (bw_ends T tc) T)])), (q1, .inl (cL, 40, .inr (.inl sb))), (q2, .inl (cL, 40, .inr (.inl (bw_up (bw_gt sb (bw_ends T tc) (bw_flood sb (bw_ends T tc) T)) gb 40))))]) hP hD [3, 7, 8] [0, 1, 2, 4, 5, 6, 9] rfl rfl (by decide) (by decide) hk1 hFc hP1 hD1
    generalize H1 = H at hP hS ⊢
    have hP : va_P (dC, dI) vwCl [(x, .inr (2, [.long T, .ref t1, .ref o, .ref q, .ref r, .int f1, .int f2])), (t1, .inl (cI, 40, .inl tc)), (o, .inr (1, [.ref o1, .ref o2, .long co])), (r, .inr (0, [.ref r1])), (o1, .inl (cL, 40, .inr (.inl so))), (o2, .inl (cL, 40, .inr (.inl go))), (r1, .inl (cL, 40, .inr (.inl bl))), (q, .inr (1, [.ref q1, .ref q2, .long (bw_flood sb (bw_ends T tc) T)])), (q1, .inl (cL, 40, .inr (.inl sb))), (q2, .inl (cL, 40, .inr (.inl (bw_up (bw_gt sb (bw_ends T tc) (bw_flood sb (bw_ends T tc) T)) gb 40))))] H := hP
    have hD : va_D A [(x, .inr (2, [.long T, .ref t1, .ref o, .ref q, .ref r, .int f1, .int f2])), (t1, .inl (cI, 40, .inl tc)), (o, .inr (1, [.ref o1, .ref o2, .long co])), (r, .inr (0, [.ref r1])), (o1, .inl (cL, 40, .inr (.inl so))), (o2, .inl (cL, 40, .inr (.inl go))), (r1, .inl (cL, 40, .inr (.inl bl))), (q, .inr (1, [.ref q1, .ref q2, .long (bw_flood sb (bw_ends T tc) T)])), (q1, .inl (cL, 40, .inr (.inl sb))), (q2, .inl (cL, 40, .inr (.inl (bw_up (bw_gt sb (bw_ends T tc) (bw_flood sb (bw_ends T tc) T)) gb 40))))] := hD
    refine lv_aload_n hx hb dB_freshBackward_22 rfl (lv_at hl 0 rfl) ?_
    refine lv_iconst (v := 0) hx hb dB_freshBackward_23 (by decide) ?_
    refine va_put (D := (dC, dI)) (ci := 2) (v := .int 0) (ty := .boolean) (C := RB) (T := TB) (N := 7) hx hb hT inB tyB tokB nmB hown hK hP hD hS 0 rfl rfl 6 (by decide) (hT _ hw_70) (fun _ h9 => h9) rfl (by decide +kernel) rfl rfl (Nat.le_of_ble_eq_true rfl) dB_freshBackward_24 (fun H locs hP hD hS => ?_)
    have hP : va_P (dC, dI) vwCl [(x, .inr (2, [.long T, .ref t1, .ref o, .ref q, .ref r, .int f1, .int 0])), (t1, .inl (cI, 40, .inl tc)), (o, .inr (1, [.ref o1, .ref o2, .long co])), (r, .inr (0, [.ref r1])), (o1, .inl (cL, 40, .inr (.inl so))), (o2, .inl (cL, 40, .inr (.inl go))), (r1, .inl (cL, 40, .inr (.inl bl))), (q, .inr (1, [.ref q1, .ref q2, .long (bw_flood sb (bw_ends T tc) T)])), (q1, .inl (cL, 40, .inr (.inl sb))), (q2, .inl (cL, 40, .inr (.inl (bw_up (bw_gt sb (bw_ends T tc) (bw_flood sb (bw_ends T tc) T)) gb 40))))] H := hP
    have hD : va_D A [(x, .inr (2, [.long T, .ref t1, .ref o, .ref q, .ref r, .int f1, .int 0])), (t1, .inl (cI, 40, .inl tc)), (o, .inr (1, [.ref o1, .ref o2, .long co])), (r, .inr (0, [.ref r1])), (o1, .inl (cL, 40, .inr (.inl so))), (o2, .inl (cL, 40, .inr (.inl go))), (r1, .inl (cL, 40, .inr (.inl bl))), (q, .inr (1, [.ref q1, .ref q2, .long (bw_flood sb (bw_ends T tc) T)])), (q1, .inl (cL, 40, .inr (.inl sb))), (q2, .inl (cL, 40, .inr (.inl (bw_up (bw_gt sb (bw_ends T tc) (bw_flood sb (bw_ends T tc) T)) gb 40))))] := hD
    refine lv_aload_n hx hb dB_freshBackward_27 rfl (lv_at hl 0 rfl) ?_
    refine va_get (D := (dC, dI)) (ci := 2) (v := .ref q) (C := RB) (T := TB) (N := 7) hx hb hT inB hown hK hP 0 rfl rfl 3 (by decide) (hT _ hw_67) (fun _ h9 => h9) rfl dB_freshBackward_28 ?_
    have hP9 := hP.sub (ws' := [(x, .inr (2, [.long T, .ref t1, .ref o, .ref q, .ref r, .int f1, .int 0])), (t1, .inl (cI, 40, .inl tc)), (o, .inr (1, [.ref o1, .ref o2, .long co])), (q, .inr (1, [.ref q1, .ref q2, .long (bw_flood sb (bw_ends T tc) T)])), (r, .inr (0, [.ref r1])), (o1, .inl (cL, 40, .inr (.inl so))), (o2, .inl (cL, 40, .inr (.inl go))), (q1, .inl (cL, 40, .inr (.inl sb))), (q2, .inl (cL, 40, .inr (.inl (bw_up (bw_gt sb (bw_ends T tc) (bw_flood sb (bw_ends T tc) T)) gb 40)))), (r1, .inl (cL, 40, .inr (.inl bl)))]) [0, 1, 2, 7, 3, 4, 5, 8, 9, 6] rfl
    have hD9 := hD.sub (ws' := [(x, .inr (2, [.long T, .ref t1, .ref o, .ref q, .ref r, .int f1, .int 0])), (t1, .inl (cI, 40, .inl tc)), (o, .inr (1, [.ref o1, .ref o2, .long co])), (q, .inr (1, [.ref q1, .ref q2, .long (bw_flood sb (bw_ends T tc) T)])), (r, .inr (0, [.ref r1])), (o1, .inl (cL, 40, .inr (.inl so))), (o2, .inl (cL, 40, .inr (.inl go))), (q1, .inl (cL, 40, .inr (.inl sb))), (q2, .inl (cL, 40, .inr (.inl (bw_up (bw_gt sb (bw_ends T tc) (bw_flood sb (bw_ends T tc) T)) gb 40)))), (r1, .inl (cL, 40, .inr (.inl bl)))]) [0, 1, 2, 7, 3, 4, 5, 8, 9, 6] (by decide) rfl
    exact W.aret (v := .ref q) hx hb hr (Or.inl ⟨_, rfl⟩) (Or.inr ⟨_, rfl⟩) (fun t9 ht9 hW9 => ⟨⟨(), _, rfl, trivial, rfl, by rw [ht9]; simp only [bw_q_f c_1]; exact hP9, by simp only [bw_q_f c_1]; exact hD9⟩, hS.F ht9⟩) hS.2.2 dB_freshBackward_31
