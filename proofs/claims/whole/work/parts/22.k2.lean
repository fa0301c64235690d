set_option maxHeartbeats 4000000 in
set_option maxRecDepth 100000 in
theorem c_gates (l : Launch) (dC : Nat → ClassId) (dI : Nat → Nat → Nat) (h a1 a2 : Nat) (cL : ClassId) (st gt : Nat → Int64) (cv : Int64) (k : Nat) (hk : k < 40) : Met l yS_gates wsS_gates ({ frames := 2, cells := 0, slots := 0, locals := 42 } : Room) (bw_Ro (dC, dI) [(cL, .long)] [(h, .inr (1, [.ref a1, .ref a2, .long cv])), (a1, .inl (cL, 40, .inr (.inl st))), (a2, .inl (cL, 40, .inr (.inl gt)))] [.ref h, .int (nI k)]) (vp_Sl (fun r => r = bw_gates gt k)) 0 0 (fun _ => False) := by
  refine Met.ofW (cc := cS_gates) (maxL := 5) (ret := (some .long)) (by decide) rfl ?_
  intro p e s m args below meth c s₁ B hml hv
  obtain ⟨rfl, hP, hK, hN⟩ := hv
  have hx := B.exec
  have hb := B.bytes
  have hr := B.returns
  have hts := atoms_spec (ws := wsS_gates) B.pre
  have hT : ∀ w ∈ bwB, w.before _ s = true := fun w h => hts w (List.mem_cons_of_mem _ h)
  have hown : s.vm.findClass RS = some m.cls := findClass_of_methodNamed B.named
  have hlocks := B.notSynchronized
  have hl := lv_entry ([.ref h, .int (nI k)]) (n := 5) (Nat.le_of_ble_eq_true rfl)
  rw [lg_entry_eq]
  generalize (lg_sl ([.ref h, .int (nI k)]) ++ List.replicate (5 - (lg_sl ([.ref h, .int (nI k)])).length) Slot.unset).toArray = ls at hl ⊢
  have hl : lv_has ls 5 [(0, .ref h), (1, .int (nI k))] := hl
  refine lv_lconst (v := 0) hx hb dS_gates_0 (by decide) ?_
  refine lv_lstore_n (lv' := [(2, .long 0), (0, .ref h), (1, .int (nI k))]) hx hb dS_gates_1 rfl hl (by decide) rfl (fun ls hl => ?_)
  refine lv_iconst (v := nI 0) hx hb dS_gates_2 (by decide) ?_
  refine lv_istore (lv' := [(4, .int (nI 0)), (2, .long 0), (0, .ref h), (1, .int (nI k))]) hx hb dS_gates_3 hl (by decide) rfl (fun ls hl => ?_)
  have loop_5 : ∀ (n_5 : Nat) (i : Nat) (acc : Int64), i ≤ 40 → 40 < i + n_5 → acc = bw_F (fun d => bw_m (gt d) k) bw_b 0 i → ∀ (ls : Array Slot), lv_has ls 5 [(0, .ref h), (1, .int (nI k)), (2, .long acc), (4, .int (nI i))] → W p l e (headSpec wsS_gates ({ frames := 2, cells := 0, slots := 0, locals := 42 } : Room)).room s m ([.ref h, .int (nI k)] : List Value).toArray below meth c s.heap [] 0 0 (MQ below (vp_Sl (fun r => r = bw_gates gt k)) ([.ref h, .int (nI k)] : List Value).toArray s 0 0 (fun _ => False)) (F0 m 5 ls []) := by
    intro n_5
    induction n_5 with
    | zero => intro i acc hii hfi ea; exfalso; omega
    | succ n_5 ih_5 =>
      intro i acc hii hfi ea ls hl
      refine lv_iload hx hb dS_gates_5 (lv_at hl 3 rfl) ?_
      refine lv_bipush (v := nI 40) hx hb dS_gates_7 (by decide) ?_
      refine lv_icmp_ge (tgt := 40) hx hb dS_gates_9 (by decide) (fun c_1 => ?_) (fun c_1 => ?_)
      · skip
        have c_1 : 40 ≤ i := (nI_leI (a := 40) (b := i) (by omega) (by omega)).mp c_1
        refine lv_lload_n hx hb dS_gates_40 rfl (lv_at hl 2 rfl) ?_
        exact W.lret (v := acc) hx hb hr (fun t9 ht9 hW9 => ⟨_, rfl, (by rw [ea, show i = 40 by omega]; rfl), ht9⟩) (fun q hq => nomatch hq) dS_gates_41
      · skip
        have c_1 : ¬ 40 ≤ i := fun z => c_1 ((nI_leI (a := 40) (b := i) (by omega) (by omega)).mpr z)
        refine lv_aload_n hx hb dS_gates_12 rfl (lv_at hl 0 rfl) ?_
        refine va_get (D := (dC, dI)) (ci := 1) (v := .ref a2) (C := RS) (T := TS) (N := 3) hx hb hT inS hown hK hP 0 rfl rfl 1 (by decide) (hT _ hw_43) (fun _ h9 => h9) rfl dS_gates_13 ?_
        refine lv_iload hx hb dS_gates_16 (lv_at hl 3 rfl) ?_
        refine bw_lald hx hb hK hP 2 0 (k := i) rfl rfl (by omega) (by decide) dS_gates_18 ?_
        refine lv_iload_n hx hb dS_gates_19 rfl (lv_at hl 1 rfl) ?_
        refine vp_callSi (bw_C (va_runSN (As := [.long (gt i), .int (nI k)]) (rest := []) ⟨hx, hb, hml, hown, hT⟩ (c_has l (gt i) k (by omega)) ⟨va_cnB 2 hT (bw_gi gn_B_has) rfl rfl rfl hN.2.2.1 (hT _ hw_18) (by decide +kernel) ⟨Nat.le_of_ble_eq_true rfl, Nat.le_of_ble_eq_true rfl⟩, hT _ hw_94, trivial⟩ preEq rfl rfl hl.1 rfl (lv_room (Nat.le_of_ble_eq_true rfl)) dS_gates_20 ⟨Nat.le_of_ble_eq_true rfl, Nat.le_of_ble_eq_true rfl⟩)) (fun r_2 hr_2 => ?_)
        rw [hr_2]; clear hr_2
        refine lv_if_eq (tgt := 34) hx hb dS_gates_23 (by decide) (fun c_3 => ?_) (fun c_3 => ?_)
        · skip
          have c_3 := bw_i0.mp c_3
          refine lv_iinc (v := nI (i + 1)) (lv' := [(4, .int (nI (i + 1))), (0, .ref h), (1, .int (nI k)), (2, .long acc)]) hx hb dS_gates_34 hl (k := 3) rfl (nI_1 _) (by decide) rfl (fun ls hl => ?_)
          refine lv_goto (tgt := 5) hx hb dS_gates_37 (by decide) ?_
          exact ih_5 (i + 1) acc (by omega) (by omega) (by first | (rw [bw_F_t (c := fun d => bw_m (gt d) k) (n := i) c_3, ← ea]; done) | (rw [bw_F_f (c := fun d => bw_m (gt d) k) (n := i) c_3, ← ea]; done)) ls (lv_sub hl [1, 2, 3, 0] rfl)
        · skip
          have c_3 := bw_in0 c_3
          refine lv_lload_n hx hb dS_gates_26 rfl (lv_at hl 2 rfl) ?_
          refine lv_iload hx hb dS_gates_27 (lv_at hl 3 rfl) ?_
          refine vp_callSl (bw_C (va_runSN (As := [.int (nI i)]) (rest := [.long acc]) ⟨hx, hb, hml, hown, hT⟩ (c_bit l i) ⟨va_cnB 1 hT (bw_gi gn_B_bit) rfl rfl rfl hN.1 (hT _ hw_18) (by decide +kernel) ⟨Nat.le_of_ble_eq_true rfl, Nat.le_of_ble_eq_true rfl⟩, hT _ hw_97, trivial⟩ preEq rfl rfl hl.1 rfl (lv_room (Nat.le_of_ble_eq_true rfl)) dS_gates_29 ⟨Nat.le_of_ble_eq_true rfl, Nat.le_of_ble_eq_true rfl⟩)) (fun r_4 hr_4 => ?_)
          rw [hr_4]; clear hr_4
          refine lv_lor hx hb dS_gates_32 ?_
          refine lv_lstore_n (lv' := [(2, .long (acc ||| (bw_b i))), (0, .ref h), (1, .int (nI k)), (4, .int (nI i))]) hx hb dS_gates_33 rfl hl (by decide) rfl (fun ls hl => ?_)
          refine lv_iinc (v := nI (i + 1)) (lv' := [(4, .int (nI (i + 1))), (2, .long (acc ||| (bw_b i))), (0, .ref h), (1, .int (nI k))]) hx hb dS_gates_34 hl (k := 3) rfl (nI_1 _) (by decide) rfl (fun ls hl => ?_)
          refine lv_goto (tgt := 5) hx hb dS_gates_37 (by decide) ?_
          exact ih_5 (i + 1) (acc ||| (bw_b i)) (by omega) (by omega) (by first | (rw [bw_F_t (c := fun d => bw_m (gt d) k) (n := i) c_3, ← ea]; done) | (rw [bw_F_f (c := fun d => bw_m (gt d) k) (n := i) c_3, ← ea]; done)) ls (lv_sub hl [2, 3, 1, 0] rfl)
  exact loop_5 41 0 0 (by omega) (by omega) (rfl) ls (lv_sub hl [2, 3, 1, 0] rfl)
set_option maxHeartbeats 4000000 in
set_option maxRecDepth 100000 in
theorem c_nearestGate (l : Launch) (dC : Nat → ClassId) (dI : Nat → Nat → Nat) (h a1 a2 : Nat) (cL : ClassId) (st gt : Nat → Int64) (cv : Int64) (k : Nat) (hk : k < 40) : Met l yS_nearestGate wsS_nearestGate ({ frames := 3, cells := 0, slots := 0, locals := 66 } : Room) (bw_Ro (dC, dI) [(cL, .long)] [(h, .inr (1, [.ref a1, .ref a2, .long cv])), (a1, .inl (cL, 40, .inr (.inl st))), (a2, .inl (cL, 40, .inr (.inl gt)))] [.ref h, .int (nI k)]) (vp_Si (fun r => r = bw_nearA gt k)) 0 0 (fun _ => False) := by
  refine Met.ofW (cc := cS_nearestGate) (maxL := 7) (ret := (some .int)) (by decide) rfl ?_
  intro p e s m args below meth c s₁ B hml hv
  obtain ⟨rfl, hP, hK, hN⟩ := hv
  have hx := B.exec
  have hb := B.bytes
  have hr := B.returns
  have hts := atoms_spec (ws := wsS_nearestGate) B.pre
  have hT : ∀ w ∈ bwB, w.before _ s = true := fun w h => hts w (List.mem_cons_of_mem _ h)
  have hown : s.vm.findClass RS = some m.cls := findClass_of_methodNamed B.named
  have hlocks := B.notSynchronized
  have hl := lv_entry ([.ref h, .int (nI k)]) (n := 7) (Nat.le_of_ble_eq_true rfl)
  rw [lg_entry_eq]
  generalize (lg_sl ([.ref h, .int (nI k)]) ++ List.replicate (7 - (lg_sl ([.ref h, .int (nI k)])).length) Slot.unset).toArray = ls at hl ⊢
  have hl : lv_has ls 7 [(0, .ref h), (1, .int (nI k))] := hl
  refine lv_aload_n hx hb dS_nearestGate_0 rfl (lv_at hl 0 rfl) ?_
  refine lv_iload_n hx hb dS_nearestGate_1 rfl (lv_at hl 1 rfl) ?_
  have hPc := hP
  have hKc := hK
  refine vp_callSl (W.runV (As := [.int (nI k)]) (rest := []) ⟨hx, hb, hml, hown, hT⟩ (c_gates l dC dI h a1 a2 cL st gt cv k (by omega)) (cwV 1 hT g_S_40 rfl rfl rfl (by decide +kernel) ⟨Nat.le_of_ble_eq_true rfl, Nat.le_of_ble_eq_true rfl⟩) (bw_pV hPc hKc hN (ci := 1) (q0 := 0) rfl rfl) rfl rfl hl.1 rfl (lv_room (Nat.le_of_ble_eq_true rfl)) dS_nearestGate_2 ⟨Nat.le_of_ble_eq_true rfl, Nat.le_of_ble_eq_true rfl⟩) (fun r_1 hr_1 => ?_)
  rw [hr_1]; clear hr_1
  refine lv_iload_n hx hb dS_nearestGate_5 rfl (lv_at hl 1 rfl) ?_
  refine vp_callSl (bw_C (va_runSN (As := [.int (nI k)]) (rest := [.long (bw_gates gt k)]) ⟨hx, hb, hml, hown, hT⟩ (c_bit l k) ⟨va_cnB 1 hT (bw_gi gn_B_bit) rfl rfl rfl hN.1 (hT _ hw_18) (by decide +kernel) ⟨Nat.le_of_ble_eq_true rfl, Nat.le_of_ble_eq_true rfl⟩, hT _ hw_97, trivial⟩ preEq rfl rfl hl.1 rfl (lv_room (Nat.le_of_ble_eq_true rfl)) dS_nearestGate_6 ⟨Nat.le_of_ble_eq_true rfl, Nat.le_of_ble_eq_true rfl⟩)) (fun r_2 hr_2 => ?_)
  rw [hr_2]; clear hr_2
  refine lv_ldc2 (v := (-1)) hx hb hown (hT _ hw_129) dS_nearestGate_9 ?_
  refine lv_lxor hx hb dS_nearestGate_12 ?_
  refine lv_land hx hb dS_nearestGate_13 ?_
  refine lv_lstore_n (lv' := [(2, .long ((bw_gates gt k) &&& ((bw_b k) ^^^ (-1)))), (0, .ref h), (1, .int (nI k))]) hx hb dS_nearestGate_14 rfl hl (by decide) rfl (fun ls hl => ?_)
  refine lv_lload_n hx hb dS_nearestGate_15 rfl (lv_at hl 0 rfl) ?_
  refine lv_lstore (lv' := [(4, .long ((bw_gates gt k) &&& ((bw_b k) ^^^ (-1)))), (2, .long ((bw_gates gt k) &&& ((bw_b k) ^^^ (-1)))), (0, .ref h), (1, .int (nI k))]) hx hb dS_nearestGate_16 hl (by decide) rfl (fun ls hl => ?_)
  refine lv_iconst (v := nI 0) hx hb dS_nearestGate_18 (by decide) ?_
  refine lv_istore (lv' := [(6, .int (nI 0)), (4, .long ((bw_gates gt k) &&& ((bw_b k) ^^^ (-1)))), (2, .long ((bw_gates gt k) &&& ((bw_b k) ^^^ (-1)))), (0, .ref h), (1, .int (nI k))]) hx hb dS_nearestGate_19 hl (by decide) rfl (fun ls hl => ?_)
  have loop_21 : ∀ (n_21 : Nat) (i : Nat) (acc : Int64), i ≤ 40 → 40 < i + n_21 → acc = bw_A (bw_m (bw_gates gt k &&& (bw_b k ^^^ (-1)))) gt (bw_gates gt k &&& (bw_b k ^^^ (-1))) i → ∀ (ls : Array Slot), lv_has ls 7 [(0, .ref h), (1, .int (nI k)), (2, .long (bw_gates gt k &&& (bw_b k ^^^ (-1)))), (4, .long acc), (6, .int (nI i))] → W p l e (headSpec wsS_nearestGate ({ frames := 3, cells := 0, slots := 0, locals := 66 } : Room)).room s m ([.ref h, .int (nI k)] : List Value).toArray below meth c s.heap [] 0 0 (MQ below (vp_Si (fun r => r = bw_nearA gt k)) ([.ref h, .int (nI k)] : List Value).toArray s 0 0 (fun _ => False)) (F0 m 21 ls []) := by
    intro n_21
    induction n_21 with
    | zero => intro i acc hii hfi ea; exfalso; omega
    | succ n_21 ih_21 =>
      intro i acc hii hfi ea ls hl
      refine lv_iload hx hb dS_nearestGate_21 (lv_at hl 4 rfl) ?_
      refine lv_bipush (v := nI 40) hx hb dS_nearestGate_23 (by decide) ?_
      refine lv_icmp_ge (tgt := 55) hx hb dS_nearestGate_25 (by decide) (fun c_3 => ?_) (fun c_3 => ?_)
      · skip
        have c_3 : 40 ≤ i := (nI_leI (a := 40) (b := i) (by omega) (by omega)).mp c_3
        refine lv_lload hx hb dS_nearestGate_55 (lv_at hl 3 rfl) ?_
        refine lv_lconst (v := 0) hx hb dS_nearestGate_57 (by decide) ?_
        refine W.lcmp hx hb dS_nearestGate_58 ?_
        refine lv_if_ne (tgt := 66) hx hb dS_nearestGate_59 (by decide) (fun c_4 => ?_) (fun c_4 => ?_)
        · skip
          have c_4 := fun z => c_4 (bw_cmp0.mpr z)
          refine lv_lload hx hb dS_nearestGate_66 (lv_at hl 3 rfl) ?_
          refine vp_callSi (bw_C (va_runSN (As := [.long acc]) (rest := []) ⟨hx, hb, hml, hown, hT⟩ (c_lowest l acc) ⟨va_cnB 1 hT (bw_gi gn_B_lowest) rfl rfl rfl hN.2.1 (hT _ hw_18) (by decide +kernel) ⟨Nat.le_of_ble_eq_true rfl, Nat.le_of_ble_eq_true rfl⟩, hT _ hw_157, trivial⟩ preEq rfl rfl hl.1 rfl (lv_room (Nat.le_of_ble_eq_true rfl)) dS_nearestGate_68 ⟨Nat.le_of_ble_eq_true rfl, Nat.le_of_ble_eq_true rfl⟩)) (fun r_5 hr_5 => ?_)
          rw [hr_5]; clear hr_5
          exact W.iret (v := nI (bw_lo acc)) hx hb hr (fun t9 ht9 hW9 => ⟨_, rfl, (by first | exact bw_nearA_0 ea (by omega) c_4 | exact bw_nearA_1 ea (by omega) c_4), ht9⟩) (fun q hq => nomatch hq) dS_nearestGate_71
        · skip
          have c_4 := bw_cmp0.mp c_4
          refine lv_iconst (v := -1) hx hb dS_nearestGate_62 (by decide) ?_
          refine lv_goto (tgt := 71) hx hb dS_nearestGate_63 (by decide) ?_
          exact W.iret (v := -1) hx hb hr (fun t9 ht9 hW9 => ⟨_, rfl, (by first | exact bw_nearA_0 ea (by omega) c_4 | exact bw_nearA_1 ea (by omega) c_4), ht9⟩) (fun q hq => nomatch hq) dS_nearestGate_71
      · skip
        have c_3 : ¬ 40 ≤ i := fun z => c_3 ((nI_leI (a := 40) (b := i) (by omega) (by omega)).mpr z)
        refine lv_lload_n hx hb dS_nearestGate_28 rfl (lv_at hl 2 rfl) ?_
        refine lv_iload hx hb dS_nearestGate_29 (lv_at hl 4 rfl) ?_
        refine vp_callSi (bw_C (va_runSN (As := [.long (bw_gates gt k &&& (bw_b k ^^^ (-1))), .int (nI i)]) (rest := []) ⟨hx, hb, hml, hown, hT⟩ (c_has l (bw_gates gt k &&& (bw_b k ^^^ (-1))) i (by omega)) ⟨va_cnB 2 hT (bw_gi gn_B_has) rfl rfl rfl hN.2.2.1 (hT _ hw_18) (by decide +kernel) ⟨Nat.le_of_ble_eq_true rfl, Nat.le_of_ble_eq_true rfl⟩, hT _ hw_94, trivial⟩ preEq rfl rfl hl.1 rfl (lv_room (Nat.le_of_ble_eq_true rfl)) dS_nearestGate_31 ⟨Nat.le_of_ble_eq_true rfl, Nat.le_of_ble_eq_true rfl⟩)) (fun r_6 hr_6 => ?_)
        rw [hr_6]; clear hr_6
        refine lv_if_eq (tgt := 49) hx hb dS_nearestGate_34 (by decide) (fun c_7 => ?_) (fun c_7 => ?_)
        · skip
          have c_7 := bw_i0.mp c_7
          refine lv_iinc (v := nI (i + 1)) (lv' := [(6, .int (nI (i + 1))), (0, .ref h), (1, .int (nI k)), (2, .long (bw_gates gt k &&& (bw_b k ^^^ (-1)))), (4, .long acc)]) hx hb dS_nearestGate_49 hl (k := 4) rfl (nI_1 _) (by decide) rfl (fun ls hl => ?_)
          refine lv_goto (tgt := 21) hx hb dS_nearestGate_52 (by decide) ?_
          exact ih_21 (i + 1) acc (by omega) (by omega) (by first | (rw [bw_A_t (c := bw_m (bw_gates gt k &&& (bw_b k ^^^ (-1)))) (n := i) c_7, ← ea]; done) | (rw [bw_A_f (c := bw_m (bw_gates gt k &&& (bw_b k ^^^ (-1)))) (n := i) c_7, ← ea]; done)) ls (lv_sub hl [1, 2, 3, 4, 0] rfl)
        · skip
          have c_7 := bw_in0 c_7
          refine lv_lload hx hb dS_nearestGate_37 (lv_at hl 3 rfl) ?_
          refine lv_aload_n hx hb dS_nearestGate_39 rfl (lv_at hl 0 rfl) ?_
          refine va_get (D := (dC, dI)) (ci := 1) (v := .ref a2) (C := RS) (T := TS) (N := 3) hx hb hT inS hown hK hP 0 rfl rfl 1 (by decide) (hT _ hw_43) (fun _ h9 => h9) rfl dS_nearestGate_40 ?_
          refine lv_iload hx hb dS_nearestGate_43 (lv_at hl 4 rfl) ?_
          refine bw_lald hx hb hK hP 2 0 (k := i) rfl rfl (by omega) (by decide) dS_nearestGate_45 ?_
          refine lv_land hx hb dS_nearestGate_46 ?_
          refine lv_lstore (lv' := [(4, .long (acc &&& (gt i))), (0, .ref h), (1, .int (nI k)), (2, .long (bw_gates gt k &&& (bw_b k ^^^ (-1)))), (6, .int (nI i))]) hx hb dS_nearestGate_47 hl (by decide) rfl (fun ls hl => ?_)
          refine lv_iinc (v := nI (i + 1)) (lv' := [(6, .int (nI (i + 1))), (4, .long (acc &&& (gt i))), (0, .ref h), (1, .int (nI k)), (2, .long (bw_gates gt k &&& (bw_b k ^^^ (-1))))]) hx hb dS_nearestGate_49 hl (k := 4) rfl (nI_1 _) (by decide) rfl (fun ls hl => ?_)
          refine lv_goto (tgt := 21) hx hb dS_nearestGate_52 (by decide) ?_
          exact ih_21 (i + 1) (acc &&& (gt i)) (by omega) (by omega) (by first | (rw [bw_A_t (c := bw_m (bw_gates gt k &&& (bw_b k ^^^ (-1)))) (n := i) c_7, ← ea]; done) | (rw [bw_A_f (c := bw_m (bw_gates gt k &&& (bw_b k ^^^ (-1)))) (n := i) c_7, ← ea]; done)) ls (lv_sub hl [2, 3, 4, 1, 0] rfl)
  exact loop_21 41 0 (bw_gates gt k &&& (bw_b k ^^^ (-1))) (by omega) (by omega) (rfl) ls (lv_sub hl [3, 4, 2, 1, 0] rfl)
set_option maxHeartbeats 4000000 in
set_option maxRecDepth 100000 in
theorem c_rim (l : Launch) (dC : Nat → ClassId) (dI : Nat → Nat → Nat) (h a1 a2 : Nat) (cL : ClassId) (st gt : Nat → Int64) (cv : Int64) (k : Nat) (hk : k < 40) : Met l yS_rim wsS_rim ({ frames := 2, cells := 0, slots := 0, locals := 42 } : Room) (bw_Ro (dC, dI) [(cL, .long)] [(h, .inr (1, [.ref a1, .ref a2, .long cv])), (a1, .inl (cL, 40, .inr (.inl st))), (a2, .inl (cL, 40, .inr (.inl gt)))] [.ref h, .int (nI k)]) (vp_Sl (fun r => r = bw_rim st gt cv k)) 0 0 (fun _ => False) := by
  refine Met.ofW (cc := cS_rim) (maxL := 5) (ret := (some .long)) (by decide) rfl ?_
  intro p e s m args below meth c s₁ B hml hv
  obtain ⟨rfl, hP, hK, hN⟩ := hv
  have hx := B.exec
  have hb := B.bytes
  have hr := B.returns
  have hts := atoms_spec (ws := wsS_rim) B.pre
  have hT : ∀ w ∈ bwB, w.before _ s = true := fun w h => hts w (List.mem_cons_of_mem _ h)
  have hown : s.vm.findClass RS = some m.cls := findClass_of_methodNamed B.named
  have hlocks := B.notSynchronized
  have hl := lv_entry ([.ref h, .int (nI k)]) (n := 5) (Nat.le_of_ble_eq_true rfl)
  rw [lg_entry_eq]
  generalize (lg_sl ([.ref h, .int (nI k)]) ++ List.replicate (5 - (lg_sl ([.ref h, .int (nI k)])).length) Slot.unset).toArray = ls at hl ⊢
  have hl : lv_has ls 5 [(0, .ref h), (1, .int (nI k))] := hl
  refine lv_lconst (v := 0) hx hb dS_rim_0 (by decide) ?_
  refine lv_lstore_n (lv' := [(2, .long 0), (0, .ref h), (1, .int (nI k))]) hx hb dS_rim_1 rfl hl (by decide) rfl (fun ls hl => ?_)
  refine lv_iconst (v := nI 0) hx hb dS_rim_2 (by decide) ?_
  refine lv_istore (lv' := [(4, .int (nI 0)), (2, .long 0), (0, .ref h), (1, .int (nI k))]) hx hb dS_rim_3 hl (by decide) rfl (fun ls hl => ?_)
  have loop_5 : ∀ (n_5 : Nat) (i : Nat) (acc : Int64), i ≤ 40 → 40 < i + n_5 → acc = bw_F (bw_m (gt k)) st 0 i → ∀ (ls : Array Slot), lv_has ls 5 [(0, .ref h), (1, .int (nI k)), (2, .long acc), (4, .int (nI i))] → W p l e (headSpec wsS_rim ({ frames := 2, cells := 0, slots := 0, locals := 42 } : Room)).room s m ([.ref h, .int (nI k)] : List Value).toArray below meth c s.heap [] 0 0 (MQ below (vp_Sl (fun r => r = bw_rim st gt cv k)) ([.ref h, .int (nI k)] : List Value).toArray s 0 0 (fun _ => False)) (F0 m 5 ls []) := by
    intro n_5
    induction n_5 with
    | zero => intro i acc hii hfi ea; exfalso; omega
    | succ n_5 ih_5 =>
      intro i acc hii hfi ea ls hl
      refine lv_iload hx hb dS_rim_5 (lv_at hl 3 rfl) ?_
      refine lv_bipush (v := nI 40) hx hb dS_rim_7 (by decide) ?_
      refine lv_icmp_ge (tgt := 42) hx hb dS_rim_9 (by decide) (fun c_1 => ?_) (fun c_1 => ?_)
      · skip
        have c_1 : 40 ≤ i := (nI_leI (a := 40) (b := i) (by omega) (by omega)).mp c_1
        refine lv_lload_n hx hb dS_rim_42 rfl (lv_at hl 2 rfl) ?_
        refine lv_aload_n hx hb dS_rim_43 rfl (lv_at hl 0 rfl) ?_
        refine va_get (D := (dC, dI)) (ci := 1) (v := .long cv) (C := RS) (T := TS) (N := 3) hx hb hT inS hown hK hP 0 rfl rfl 2 (by decide) (hT _ hw_44) (fun _ h9 => h9) rfl dS_rim_44 ?_
        refine lv_land hx hb dS_rim_47 ?_
        refine lv_aload_n hx hb dS_rim_48 rfl (lv_at hl 0 rfl) ?_
        refine va_get (D := (dC, dI)) (ci := 1) (v := .ref a2) (C := RS) (T := TS) (N := 3) hx hb hT inS hown hK hP 0 rfl rfl 1 (by decide) (hT _ hw_43) (fun _ h9 => h9) rfl dS_rim_49 ?_
        refine lv_iload_n hx hb dS_rim_52 rfl (lv_at hl 1 rfl) ?_
        refine bw_lald hx hb hK hP 2 0 (k := k) rfl rfl (by omega) (by decide) dS_rim_53 ?_
        refine lv_iload_n hx hb dS_rim_54 rfl (lv_at hl 1 rfl) ?_
        refine vp_callSl (bw_C (va_runSN (As := [.int (nI k)]) (rest := [.long (gt k), .long (acc &&& cv)]) ⟨hx, hb, hml, hown, hT⟩ (c_bit l k) ⟨va_cnB 1 hT (bw_gi gn_B_bit) rfl rfl rfl hN.1 (hT _ hw_18) (by decide +kernel) ⟨Nat.le_of_ble_eq_true rfl, Nat.le_of_ble_eq_true rfl⟩, hT _ hw_97, trivial⟩ preEq rfl rfl hl.1 rfl (lv_room (Nat.le_of_ble_eq_true rfl)) dS_rim_55 ⟨Nat.le_of_ble_eq_true rfl, Nat.le_of_ble_eq_true rfl⟩)) (fun r_2 hr_2 => ?_)
        rw [hr_2]; clear hr_2
        refine lv_ldc2 (v := (-1)) hx hb hown (hT _ hw_129) dS_rim_58 ?_
        refine lv_lxor hx hb dS_rim_61 ?_
        refine lv_land hx hb dS_rim_62 ?_
        refine lv_ldc2 (v := (-1)) hx hb hown (hT _ hw_129) dS_rim_63 ?_
        refine lv_lxor hx hb dS_rim_66 ?_
        refine lv_land hx hb dS_rim_67 ?_
        exact W.lret (v := (acc &&& cv) &&& (((gt k) &&& ((bw_b k) ^^^ (-1))) ^^^ (-1))) hx hb hr (fun t9 ht9 hW9 => ⟨_, rfl, (by rw [ea, show i = 40 by omega]; rfl), ht9⟩) (fun q hq => nomatch hq) dS_rim_68
      · skip
        have c_1 : ¬ 40 ≤ i := fun z => c_1 ((nI_leI (a := 40) (b := i) (by omega) (by omega)).mpr z)
        refine lv_aload_n hx hb dS_rim_12 rfl (lv_at hl 0 rfl) ?_
        refine va_get (D := (dC, dI)) (ci := 1) (v := .ref a2) (C := RS) (T := TS) (N := 3) hx hb hT inS hown hK hP 0 rfl rfl 1 (by decide) (hT _ hw_43) (fun _ h9 => h9) rfl dS_rim_13 ?_
        refine lv_iload_n hx hb dS_rim_16 rfl (lv_at hl 1 rfl) ?_
        refine bw_lald hx hb hK hP 2 0 (k := k) rfl rfl (by omega) (by decide) dS_rim_17 ?_
        refine lv_iload hx hb dS_rim_18 (lv_at hl 3 rfl) ?_
        refine vp_callSi (bw_C (va_runSN (As := [.long (gt k), .int (nI i)]) (rest := []) ⟨hx, hb, hml, hown, hT⟩ (c_has l (gt k) i (by omega)) ⟨va_cnB 2 hT (bw_gi gn_B_has) rfl rfl rfl hN.2.2.1 (hT _ hw_18) (by decide +kernel) ⟨Nat.le_of_ble_eq_true rfl, Nat.le_of_ble_eq_true rfl⟩, hT _ hw_94, trivial⟩ preEq rfl rfl hl.1 rfl (lv_room (Nat.le_of_ble_eq_true rfl)) dS_rim_20 ⟨Nat.le_of_ble_eq_true rfl, Nat.le_of_ble_eq_true rfl⟩)) (fun r_3 hr_3 => ?_)
        rw [hr_3]; clear hr_3
        refine lv_if_eq (tgt := 36) hx hb dS_rim_23 (by decide) (fun c_4 => ?_) (fun c_4 => ?_)
        · skip
          have c_4 := bw_i0.mp c_4
          refine lv_iinc (v := nI (i + 1)) (lv' := [(4, .int (nI (i + 1))), (0, .ref h), (1, .int (nI k)), (2, .long acc)]) hx hb dS_rim_36 hl (k := 3) rfl (nI_1 _) (by decide) rfl (fun ls hl => ?_)
          refine lv_goto (tgt := 5) hx hb dS_rim_39 (by decide) ?_
          exact ih_5 (i + 1) acc (by omega) (by omega) (by first | (rw [bw_F_t (c := bw_m (gt k)) (n := i) c_4, ← ea]; done) | (rw [bw_F_f (c := bw_m (gt k)) (n := i) c_4, ← ea]; done)) ls (lv_sub hl [1, 2, 3, 0] rfl)
        · skip
          have c_4 := bw_in0 c_4
          refine lv_lload_n hx hb dS_rim_26 rfl (lv_at hl 2 rfl) ?_
          refine lv_aload_n hx hb dS_rim_27 rfl (lv_at hl 0 rfl) ?_
          refine va_get (D := (dC, dI)) (ci := 1) (v := .ref a1) (C := RS) (T := TS) (N := 3) hx hb hT inS hown hK hP 0 rfl rfl 0 (by decide) (hT _ hw_42) (fun _ h9 => h9) rfl dS_rim_28 ?_
          refine lv_iload hx hb dS_rim_31 (lv_at hl 3 rfl) ?_
          refine bw_lald hx hb hK hP 1 0 (k := i) rfl rfl (by omega) (by decide) dS_rim_33 ?_
          refine lv_lor hx hb dS_rim_34 ?_
          refine lv_lstore_n (lv' := [(2, .long (acc ||| (st i))), (0, .ref h), (1, .int (nI k)), (4, .int (nI i))]) hx hb dS_rim_35 rfl hl (by decide) rfl (fun ls hl => ?_)
          refine lv_iinc (v := nI (i + 1)) (lv' := [(4, .int (nI (i + 1))), (2, .long (acc ||| (st i))), (0, .ref h), (1, .int (nI k))]) hx hb dS_rim_36 hl (k := 3) rfl (nI_1 _) (by decide) rfl (fun ls hl => ?_)
          refine lv_goto (tgt := 5) hx hb dS_rim_39 (by decide) ?_
          exact ih_5 (i + 1) (acc ||| (st i)) (by omega) (by omega) (by first | (rw [bw_F_t (c := bw_m (gt k)) (n := i) c_4, ← ea]; done) | (rw [bw_F_f (c := bw_m (gt k)) (n := i) c_4, ← ea]; done)) ls (lv_sub hl [2, 3, 1, 0] rfl)
  exact loop_5 41 0 0 (by omega) (by omega) (rfl) ls (lv_sub hl [2, 3, 1, 0] rfl)
set_option maxHeartbeats 4000000 in
set_option maxRecDepth 100000 in
theorem c_blocksOf (l : Launch) (dC : Nat → ClassId) (dI : Nat → Nat → Nat) (h a1 : Nat) (cL : ClassId) (bl : Nat → Int64) (k : Nat) (hk : k < 40) : Met l yR_blocksOf wsR_blocksOf ({ frames := 0, cells := 0, slots := 0, locals := 0 } : Room) (bw_Ro (dC, dI) [(cL, .long)] [(h, .inr (0, [.ref a1])), (a1, .inl (cL, 40, .inr (.inl bl)))] [.ref h, .int (nI k)]) (vp_Sl (fun r => r = bl k)) 0 0 (fun _ => False) := by
  refine Met.ofW (cc := cR_blocksOf) (maxL := 2) (ret := (some .long)) (by decide) rfl ?_
  intro p e s m args below meth c s₁ B hml hv
  obtain ⟨rfl, hP, hK, hN⟩ := hv
  have hx := B.exec
  have hb := B.bytes
  have hr := B.returns
  have hts := atoms_spec (ws := wsR_blocksOf) B.pre
  have hT : ∀ w ∈ bwB, w.before _ s = true := fun w h => hts w (List.mem_cons_of_mem _ h)
  have hown : s.vm.findClass RR = some m.cls := findClass_of_methodNamed B.named
  have hlocks := B.notSynchronized
  have hl := lv_entry ([.ref h, .int (nI k)]) (n := 2) (Nat.le_of_ble_eq_true rfl)
  rw [lg_entry_eq]
  generalize (lg_sl ([.ref h, .int (nI k)]) ++ List.replicate (2 - (lg_sl ([.ref h, .int (nI k)])).length) Slot.unset).toArray = ls at hl ⊢
  have hl : lv_has ls 2 [(0, .ref h), (1, .int (nI k))] := hl
  refine lv_aload_n hx hb dR_blocksOf_0 rfl (lv_at hl 0 rfl) ?_
  refine va_get (D := (dC, dI)) (ci := 0) (v := .ref a1) (C := RR) (T := TR) (N := 1) hx hb hT inR hown hK hP 0 rfl rfl 0 (by decide) (hT _ hw_60) (fun _ h9 => h9) rfl dR_blocksOf_1 ?_
  refine lv_iload_n hx hb dR_blocksOf_4 rfl (lv_at hl 1 rfl) ?_
  refine bw_lald hx hb hK hP 1 0 (k := k) rfl rfl (by omega) (by decide) dR_blocksOf_5 ?_
  exact W.lret (v := bl k) hx hb hr (fun t9 ht9 hW9 => ⟨_, rfl, rfl, ht9⟩) (fun q hq => nomatch hq) dR_blocksOf_6
set_option maxHeartbeats 4000000 in
set_option maxRecDepth 100000 in
theorem c_number (l : Launch) (dC : Nat → ClassId) (dI : Nat → Nat → Nat) (h a1 : Nat) (cL : ClassId) (bl : Nat → Int64) : Met l yR_number wsR_number ({ frames := 0, cells := 0, slots := 0, locals := 0 } : Room) (bw_Ro (dC, dI) [(cL, .long)] [(h, .inr (0, [.ref a1])), (a1, .inl (cL, 40, .inr (.inl bl)))] [.ref h]) (vp_Si (fun r => r = nI (bw_N (fun h => !decide (bl h = 0)) 40))) 0 0 (fun _ => False) := by
  refine Met.ofW (cc := cR_number) (maxL := 3) (ret := (some .int)) (by decide) rfl ?_
  intro p e s m args below meth c s₁ B hml hv
  obtain ⟨rfl, hP, hK, hN⟩ := hv
  have hx := B.exec
  have hb := B.bytes
  have hr := B.returns
  have hts := atoms_spec (ws := wsR_number) B.pre
  have hT : ∀ w ∈ bwB, w.before _ s = true := fun w h => hts w (List.mem_cons_of_mem _ h)
  have hown : s.vm.findClass RR = some m.cls := findClass_of_methodNamed B.named
  have hlocks := B.notSynchronized
  have hl := lv_entry ([.ref h]) (n := 3) (Nat.le_of_ble_eq_true rfl)
  rw [lg_entry_eq]
  generalize (lg_sl ([.ref h]) ++ List.replicate (3 - (lg_sl ([.ref h])).length) Slot.unset).toArray = ls at hl ⊢
  have hl : lv_has ls 3 [(0, .ref h)] := hl
  refine lv_iconst (v := nI 0) hx hb dR_number_0 (by decide) ?_
  refine lv_istore_n (lv' := [(1, .int (nI 0)), (0, .ref h)]) hx hb dR_number_1 rfl hl (by decide) rfl (fun ls hl => ?_)
  refine lv_iconst (v := nI 0) hx hb dR_number_2 (by decide) ?_
  refine lv_istore_n (lv' := [(2, .int (nI 0)), (1, .int (nI 0)), (0, .ref h)]) hx hb dR_number_3 rfl hl (by decide) rfl (fun ls hl => ?_)
  have loop_4 : ∀ (n_4 : Nat) (i : Nat) (n : Nat), i ≤ 40 → 40 < i + n_4 → n = bw_N (fun h => !decide (bl h = 0)) i → ∀ (ls : Array Slot), lv_has ls 3 [(0, .ref h), (1, .int (nI n)), (2, .int (nI i))] → W p l e (headSpec wsR_number ({ frames := 0, cells := 0, slots := 0, locals := 0 } : Room)).room s m ([.ref h] : List Value).toArray below meth c s.heap [] 0 0 (MQ below (vp_Si (fun r => r = nI (bw_N (fun h => !decide (bl h = 0)) 40))) ([.ref h] : List Value).toArray s 0 0 (fun _ => False)) (F0 m 4 ls []) := by
    intro n_4
    induction n_4 with
    | zero => intro i n hii hfi en; exfalso; omega
    | succ n_4 ih_4 =>
      intro i n hii hfi en ls hl
      refine lv_iload_n hx hb dR_number_4 rfl (lv_at hl 2 rfl) ?_
      refine lv_bipush (v := nI 40) hx hb dR_number_5 (by decide) ?_
      refine lv_icmp_ge (tgt := 30) hx hb dR_number_7 (by decide) (fun c_1 => ?_) (fun c_1 => ?_)
      · skip
        have c_1 : 40 ≤ i := (nI_leI (a := 40) (b := i) (by omega) (by omega)).mp c_1
        refine lv_iload_n hx hb dR_number_30 rfl (lv_at hl 1 rfl) ?_
        exact W.iret (v := nI n) hx hb hr (fun t9 ht9 hW9 => ⟨_, rfl, (by rw [en, show i = 40 by omega]), ht9⟩) (fun q hq => nomatch hq) dR_number_31
      · skip
        have c_1 : ¬ 40 ≤ i := fun z => c_1 ((nI_leI (a := 40) (b := i) (by omega) (by omega)).mpr z)
        refine lv_aload_n hx hb dR_number_10 rfl (lv_at hl 0 rfl) ?_
        refine va_get (D := (dC, dI)) (ci := 0) (v := .ref a1) (C := RR) (T := TR) (N := 1) hx hb hT inR hown hK hP 0 rfl rfl 0 (by decide) (hT _ hw_60) (fun _ h9 => h9) rfl dR_number_11 ?_
        refine lv_iload_n hx hb dR_number_14 rfl (lv_at hl 2 rfl) ?_
        refine bw_lald hx hb hK hP 1 0 (k := i) rfl rfl (by omega) (by decide) dR_number_15 ?_
        refine lv_lconst (v := 0) hx hb dR_number_16 (by decide) ?_
        refine W.lcmp hx hb dR_number_17 ?_
        refine lv_if_eq (tgt := 24) hx hb dR_number_18 (by decide) (fun c_2 => ?_) (fun c_2 => ?_)
        · skip
          have c_2 := bw_cmp0.mp c_2
          refine lv_iinc (v := nI (i + 1)) (lv' := [(2, .int (nI (i + 1))), (0, .ref h), (1, .int (nI n))]) hx hb dR_number_24 hl (k := 2) rfl (nI_1 _) (by decide) rfl (fun ls hl => ?_)
          refine lv_goto (tgt := 4) hx hb dR_number_27 (by decide) ?_
          exact ih_4 (i + 1) n (by omega) (by omega) (by first | (rw [bw_N_t (c := fun h => !decide (bl h = 0)) (n := i) (bw_nzT c_2), ← en]; done) | (rw [bw_N_f (c := fun h => !decide (bl h = 0)) (n := i) (bw_nzF c_2), ← en]; done)) ls (lv_sub hl [1, 2, 0] rfl)
        · skip
          have c_2 := fun z => c_2 (bw_cmp0.mpr z)
          refine lv_iinc (v := nI (n + 1)) (lv' := [(1, .int (nI (n + 1))), (0, .ref h), (2, .int (nI i))]) hx hb dR_number_21 hl (k := 1) rfl (nI_1 _) (by decide) rfl (fun ls hl => ?_)
          refine lv_iinc (v := nI (i + 1)) (lv' := [(2, .int (nI (i + 1))), (1, .int (nI (n + 1))), (0, .ref h)]) hx hb dR_number_24 hl (k := 2) rfl (nI_1 _) (by decide) rfl (fun ls hl => ?_)
          refine lv_goto (tgt := 4) hx hb dR_number_27 (by decide) ?_
          exact ih_4 (i + 1) (n + 1) (by omega) (by omega) (by first | (rw [bw_N_t (c := fun h => !decide (bl h = 0)) (n := i) (bw_nzT c_2), ← en]; done) | (rw [bw_N_f (c := fun h => !decide (bl h = 0)) (n := i) (bw_nzF c_2), ← en]; done)) ls (lv_sub hl [2, 1, 0] rfl)
  exact loop_4 41 0 0 (by omega) (by omega) (rfl) ls (lv_sub hl [2, 1, 0] rfl)
set_option maxHeartbeats 4000000 in
set_option maxRecDepth 100000 in
theorem c_numberAround (l : Launch) (dC : Nat → ClassId) (dI : Nat → Nat → Nat) (h a1 : Nat) (cL : ClassId) (bl : Nat → Int64) (k : Nat) (hk : k < 40) : Met l yR_numberAround wsR_numberAround ({ frames := 2, cells := 0, slots := 0, locals := 42 } : Room) (bw_Ro (dC, dI) [(cL, .long)] [(h, .inr (0, [.ref a1])), (a1, .inl (cL, 40, .inr (.inl bl)))] [.ref h, .int (nI k)]) (vp_Si (fun r => r = nI (bw_N (fun h => bw_m (bl h) k) 40))) 0 0 (fun _ => False) := by
  refine Met.ofW (cc := cR_numberAround) (maxL := 4) (ret := (some .int)) (by decide) rfl ?_
  intro p e s m args below meth c s₁ B hml hv
  obtain ⟨rfl, hP, hK, hN⟩ := hv
  have hx := B.exec
  have hb := B.bytes
  have hr := B.returns
  have hts := atoms_spec (ws := wsR_numberAround) B.pre
  have hT : ∀ w ∈ bwB, w.before _ s = true := fun w h => hts w (List.mem_cons_of_mem _ h)
  have hown : s.vm.findClass RR = some m.cls := findClass_of_methodNamed B.named
  have hlocks := B.notSynchronized
  have hl := lv_entry ([.ref h, .int (nI k)]) (n := 4) (Nat.le_of_ble_eq_true rfl)
  rw [lg_entry_eq]
  generalize (lg_sl ([.ref h, .int (nI k)]) ++ List.replicate (4 - (lg_sl ([.ref h, .int (nI k)])).length) Slot.unset).toArray = ls at hl ⊢
  have hl : lv_has ls 4 [(0, .ref h), (1, .int (nI k))] := hl
  refine lv_iconst (v := nI 0) hx hb dR_numberAround_0 (by decide) ?_
  refine lv_istore_n (lv' := [(2, .int (nI 0)), (0, .ref h), (1, .int (nI k))]) hx hb dR_numberAround_1 rfl hl (by decide) rfl (fun ls hl => ?_)
  refine lv_iconst (v := nI 0) hx hb dR_numberAround_2 (by decide) ?_
  refine lv_istore_n (lv' := [(3, .int (nI 0)), (2, .int (nI 0)), (0, .ref h), (1, .int (nI k))]) hx hb dR_numberAround_3 rfl hl (by decide) rfl (fun ls hl => ?_)
  have loop_4 : ∀ (n_4 : Nat) (i : Nat) (n : Nat), i ≤ 40 → 40 < i + n_4 → n = bw_N (fun h => bw_m (bl h) k) i → ∀ (ls : Array Slot), lv_has ls 4 [(0, .ref h), (1, .int (nI k)), (2, .int (nI n)), (3, .int (nI i))] → W p l e (headSpec wsR_numberAround ({ frames := 2, cells := 0, slots := 0, locals := 42 } : Room)).room s m ([.ref h, .int (nI k)] : List Value).toArray below meth c s.heap [] 0 0 (MQ below (vp_Si (fun r => r = nI (bw_N (fun h => bw_m (bl h) k) 40))) ([.ref h, .int (nI k)] : List Value).toArray s 0 0 (fun _ => False)) (F0 m 4 ls []) := by
    intro n_4
    induction n_4 with
    | zero => intro i n hii hfi en; exfalso; omega
    | succ n_4 ih_4 =>
      intro i n hii hfi en ls hl
      refine lv_iload_n hx hb dR_numberAround_4 rfl (lv_at hl 3 rfl) ?_
      refine lv_bipush (v := nI 40) hx hb dR_numberAround_5 (by decide) ?_
      refine lv_icmp_ge (tgt := 32) hx hb dR_numberAround_7 (by decide) (fun c_1 => ?_) (fun c_1 => ?_)
      · skip
        have c_1 : 40 ≤ i := (nI_leI (a := 40) (b := i) (by omega) (by omega)).mp c_1
        refine lv_iload_n hx hb dR_numberAround_32 rfl (lv_at hl 2 rfl) ?_
        exact W.iret (v := nI n) hx hb hr (fun t9 ht9 hW9 => ⟨_, rfl, (by rw [en, show i = 40 by omega]), ht9⟩) (fun q hq => nomatch hq) dR_numberAround_33
      · skip
        have c_1 : ¬ 40 ≤ i := fun z => c_1 ((nI_leI (a := 40) (b := i) (by omega) (by omega)).mpr z)
        refine lv_aload_n hx hb dR_numberAround_10 rfl (lv_at hl 0 rfl) ?_
        refine va_get (D := (dC, dI)) (ci := 0) (v := .ref a1) (C := RR) (T := TR) (N := 1) hx hb hT inR hown hK hP 0 rfl rfl 0 (by decide) (hT _ hw_60) (fun _ h9 => h9) rfl dR_numberAround_11 ?_
        refine lv_iload_n hx hb dR_numberAround_14 rfl (lv_at hl 3 rfl) ?_
        refine bw_lald hx hb hK hP 1 0 (k := i) rfl rfl (by omega) (by decide) dR_numberAround_15 ?_
        refine lv_iload_n hx hb dR_numberAround_16 rfl (lv_at hl 1 rfl) ?_
        refine vp_callSi (bw_C (va_runSN (As := [.long (bl i), .int (nI k)]) (rest := []) ⟨hx, hb, hml, hown, hT⟩ (c_has l (bl i) k (by omega)) ⟨va_cnB 2 hT (bw_gi gn_B_has) rfl rfl rfl hN.2.2.2.2 (hT _ hw_18) (by decide +kernel) ⟨Nat.le_of_ble_eq_true rfl, Nat.le_of_ble_eq_true rfl⟩, hT _ hw_94, trivial⟩ preEq rfl rfl hl.1 rfl (lv_room (Nat.le_of_ble_eq_true rfl)) dR_numberAround_17 ⟨Nat.le_of_ble_eq_true rfl, Nat.le_of_ble_eq_true rfl⟩)) (fun r_2 hr_2 => ?_)
        rw [hr_2]; clear hr_2
        refine lv_if_eq (tgt := 26) hx hb dR_numberAround_20 (by decide) (fun c_3 => ?_) (fun c_3 => ?_)
        · skip
          have c_3 := bw_i0.mp c_3
          refine lv_iinc (v := nI (i + 1)) (lv' := [(3, .int (nI (i + 1))), (0, .ref h), (1, .int (nI k)), (2, .int (nI n))]) hx hb dR_numberAround_26 hl (k := 3) rfl (nI_1 _) (by decide) rfl (fun ls hl => ?_)
          refine lv_goto (tgt := 4) hx hb dR_numberAround_29 (by decide) ?_
          exact ih_4 (i + 1) n (by omega) (by omega) (by first | (rw [bw_N_t (c := fun h => bw_m (bl h) k) (n := i) c_3, ← en]; done) | (rw [bw_N_f (c := fun h => bw_m (bl h) k) (n := i) c_3, ← en]; done)) ls (lv_sub hl [1, 2, 3, 0] rfl)
        · skip
          have c_3 := bw_in0 c_3
          refine lv_iinc (v := nI (n + 1)) (lv' := [(2, .int (nI (n + 1))), (0, .ref h), (1, .int (nI k)), (3, .int (nI i))]) hx hb dR_numberAround_23 hl (k := 2) rfl (nI_1 _) (by decide) rfl (fun ls hl => ?_)
          refine lv_iinc (v := nI (i + 1)) (lv' := [(3, .int (nI (i + 1))), (2, .int (nI (n + 1))), (0, .ref h), (1, .int (nI k))]) hx hb dR_numberAround_26 hl (k := 3) rfl (nI_1 _) (by decide) rfl (fun ls hl => ?_)
          refine lv_goto (tgt := 4) hx hb dR_numberAround_29 (by decide) ?_
          exact ih_4 (i + 1) (n + 1) (by omega) (by omega) (by first | (rw [bw_N_t (c := fun h => bw_m (bl h) k) (n := i) c_3, ← en]; done) | (rw [bw_N_f (c := fun h => bw_m (bl h) k) (n := i) c_3, ← en]; done)) ls (lv_sub hl [2, 3, 1, 0] rfl)
  exact loop_4 41 0 0 (by omega) (by omega) (rfl) ls (lv_sub hl [2, 3, 1, 0] rfl)
set_option maxHeartbeats 4000000 in
set_option maxRecDepth 100000 in
theorem c_deepest (l : Launch) (dC : Nat → ClassId) (dI : Nat → Nat → Nat) (h a1 : Nat) (cL : ClassId) (bl : Nat → Int64) : Met l yR_deepest wsR_deepest ({ frames := 3, cells := 0, slots := 0, locals := 65 } : Room) (bw_Ro (dC, dI) [(cL, .long)] [(h, .inr (0, [.ref a1])), (a1, .inl (cL, 40, .inr (.inl bl)))] [.ref h]) (vp_Si (fun r => r = nI (bw_X (fun b => bw_N (fun h => bw_m (bl h) b) 40) 40))) 0 0 (fun _ => False) := by
  refine Met.ofW (cc := cR_deepest) (maxL := 3) (ret := (some .int)) (by decide) rfl ?_
  intro p e s m args below meth c s₁ B hml hv
  obtain ⟨rfl, hP, hK, hN⟩ := hv
  have hx := B.exec
  have hb := B.bytes
  have hr := B.returns
  have hts := atoms_spec (ws := wsR_deepest) B.pre
  have hT : ∀ w ∈ bwB, w.before _ s = true := fun w h => hts w (List.mem_cons_of_mem _ h)
  have hown : s.vm.findClass RR = some m.cls := findClass_of_methodNamed B.named
  have hlocks := B.notSynchronized
  have hl := lv_entry ([.ref h]) (n := 3) (Nat.le_of_ble_eq_true rfl)
  rw [lg_entry_eq]
  generalize (lg_sl ([.ref h]) ++ List.replicate (3 - (lg_sl ([.ref h])).length) Slot.unset).toArray = ls at hl ⊢
  have hl : lv_has ls 3 [(0, .ref h)] := hl
  refine lv_iconst (v := nI 0) hx hb dR_deepest_0 (by decide) ?_
  refine lv_istore_n (lv' := [(1, .int (nI 0)), (0, .ref h)]) hx hb dR_deepest_1 rfl hl (by decide) rfl (fun ls hl => ?_)
  refine lv_iconst (v := nI 0) hx hb dR_deepest_2 (by decide) ?_
  refine lv_istore_n (lv' := [(2, .int (nI 0)), (1, .int (nI 0)), (0, .ref h)]) hx hb dR_deepest_3 rfl hl (by decide) rfl (fun ls hl => ?_)
  have loop_4 : ∀ (n_4 : Nat) (i : Nat) (n : Nat), i ≤ 40 → 40 < i + n_4 → n = bw_X (fun b => bw_N (fun h => bw_m (bl h) b) 40) i → ∀ (ls : Array Slot), lv_has ls 3 [(0, .ref h), (1, .int (nI n)), (2, .int (nI i))] → W p l e (headSpec wsR_deepest ({ frames := 3, cells := 0, slots := 0, locals := 65 } : Room)).room s m ([.ref h] : List Value).toArray below meth c s.heap [] 0 0 (MQ below (vp_Si (fun r => r = nI (bw_X (fun b => bw_N (fun h => bw_m (bl h) b) 40) 40))) ([.ref h] : List Value).toArray s 0 0 (fun _ => False)) (F0 m 4 ls []) := by
    intro n_4
    induction n_4 with
    | zero => intro i n hii hfi en; exfalso; omega
    | succ n_4 ih_4 =>
      intro i n hii hfi en ls hl
      have hn1 : n ≤ 40 := by rw [en]; exact bw_X_le (fun b => bw_N_le _ 40) i
      have hn2 := bw_N_le (fun h => bw_m (bl h) i) 40
      refine lv_iload_n hx hb dR_deepest_4 rfl (lv_at hl 2 rfl) ?_
      refine lv_bipush (v := nI 40) hx hb dR_deepest_5 (by decide) ?_
      refine lv_icmp_ge (tgt := 26) hx hb dR_deepest_7 (by decide) (fun c_1 => ?_) (fun c_1 => ?_)
      · skip
        have c_1 : 40 ≤ i := (nI_leI (a := 40) (b := i) (by omega) (by omega)).mp c_1
        refine lv_iload_n hx hb dR_deepest_26 rfl (lv_at hl 1 rfl) ?_
        exact W.iret (v := nI n) hx hb hr (fun t9 ht9 hW9 => ⟨_, rfl, (by rw [en, show i = 40 by omega]), ht9⟩) (fun q hq => nomatch hq) dR_deepest_27
      · skip
        have c_1 : ¬ 40 ≤ i := fun z => c_1 ((nI_leI (a := 40) (b := i) (by omega) (by omega)).mpr z)
        refine lv_iload_n hx hb dR_deepest_10 rfl (lv_at hl 1 rfl) ?_
        refine lv_aload_n hx hb dR_deepest_11 rfl (lv_at hl 0 rfl) ?_
        refine lv_iload_n hx hb dR_deepest_12 rfl (lv_at hl 2 rfl) ?_
        have hPc := hP
        have hKc := hK
        refine vp_callSi (W.runV (As := [.int (nI i)]) (rest := [.int (nI n)]) ⟨hx, hb, hml, hown, hT⟩ (c_numberAround l dC dI h a1 cL bl i (by omega)) (cwV 1 hT g_R_41 rfl rfl rfl (by decide +kernel) ⟨Nat.le_of_ble_eq_true rfl, Nat.le_of_ble_eq_true rfl⟩) (bw_pV hPc hKc hN (ci := 0) (q0 := 0) rfl rfl) rfl rfl hl.1 rfl (lv_room (Nat.le_of_ble_eq_true rfl)) dR_deepest_13 ⟨Nat.le_of_ble_eq_true rfl, Nat.le_of_ble_eq_true rfl⟩) (fun r_2 hr_2 => ?_)
        rw [hr_2]; clear hr_2
        refine va_mmax hx hb (hml.trans hl.1.symm) hown (hT _ hw_205) (hT _ hw_206) (hT _ hw_23) (hT _ hw_207) (Nat.le_of_ble_eq_true rfl) (Nat.le_of_ble_eq_true rfl) (Nat.zero_le _) (Nat.zero_le _) dR_deepest_16 ?_
        rw [bw_max (a := n) (b := bw_N (fun h => bw_m (bl h) i) 40) (by omega) (by omega)]
        refine lv_istore_n (lv' := [(1, .int (nI (if n < bw_N (fun h => bw_m (bl h) i) 40 then bw_N (fun h => bw_m (bl h) i) 40 else n))), (0, .ref h), (2, .int (nI i))]) hx hb dR_deepest_19 rfl hl (by decide) rfl (fun ls hl => ?_)
        refine lv_iinc (v := nI (i + 1)) (lv' := [(2, .int (nI (i + 1))), (1, .int (nI (if n < bw_N (fun h => bw_m (bl h) i) 40 then bw_N (fun h => bw_m (bl h) i) 40 else n))), (0, .ref h)]) hx hb dR_deepest_20 hl (k := 2) rfl (nI_1 _) (by decide) rfl (fun ls hl => ?_)
        refine lv_goto (tgt := 4) hx hb dR_deepest_23 (by decide) ?_
        exact ih_4 (i + 1) (if n < bw_N (fun h => bw_m (bl h) i) 40 then bw_N (fun h => bw_m (bl h) i) 40 else n) (by omega) (by omega) (by rw [en]; rfl) ls (lv_sub hl [2, 1, 0] rfl)
  exact loop_4 41 0 0 (by omega) (by omega) (rfl) ls (lv_sub hl [2, 1, 0] rfl)
set_option maxHeartbeats 4000000 in
set_option maxRecDepth 100000 in
theorem c_smallestAround (l : Launch) (dC : Nat → ClassId) (dI : Nat → Nat → Nat) (h a1 : Nat) (cL : ClassId) (bl : Nat → Int64) (hbl : ∀ h, h < 40 → ∀ i, bw_m (bl h) i = true → i < 40) (k : Nat) (hk : k < 40) : Met l yR_smallestAround wsR_smallestAround ({ frames := 2, cells := 0, slots := 0, locals := 42 } : Room) (bw_Ro (dC, dI) [(cL, .long)] [(h, .inr (0, [.ref a1])), (a1, .inl (cL, 40, .inr (.inl bl)))] [.ref h, .int (nI k)]) (vp_Si (fun r => r = bw_h (bw_sm bl k 40))) 0 0 (fun _ => False) := by
  refine Met.ofW (cc := cR_smallestAround) (maxL := 6) (ret := (some .int)) (by decide) rfl ?_
  intro p e s m args below meth c s₁ B hml hv
  obtain ⟨rfl, hP, hK, hN⟩ := hv
  have hx := B.exec
  have hb := B.bytes
  have hr := B.returns
  have hts := atoms_spec (ws := wsR_smallestAround) B.pre
  have hT : ∀ w ∈ bwB, w.before _ s = true := fun w h => hts w (List.mem_cons_of_mem _ h)
  have hown : s.vm.findClass RR = some m.cls := findClass_of_methodNamed B.named
  have hlocks := B.notSynchronized
  have hl := lv_entry ([.ref h, .int (nI k)]) (n := 6) (Nat.le_of_ble_eq_true rfl)
  rw [lg_entry_eq]
  generalize (lg_sl ([.ref h, .int (nI k)]) ++ List.replicate (6 - (lg_sl ([.ref h, .int (nI k)])).length) Slot.unset).toArray = ls at hl ⊢
  have hl : lv_has ls 6 [(0, .ref h), (1, .int (nI k))] := hl
  refine lv_iconst (v := -1) hx hb dR_smallestAround_0 (by decide) ?_
  refine lv_istore_n (lv' := [(2, .int (-1)), (0, .ref h), (1, .int (nI k))]) hx hb dR_smallestAround_1 rfl hl (by decide) rfl (fun ls hl => ?_)
  refine lv_bipush (v := nI 41) hx hb dR_smallestAround_2 (by decide) ?_
  refine lv_istore_n (lv' := [(3, .int (nI 41)), (2, .int (-1)), (0, .ref h), (1, .int (nI k))]) hx hb dR_smallestAround_4 rfl hl (by decide) rfl (fun ls hl => ?_)
  refine lv_iconst (v := nI 0) hx hb dR_smallestAround_5 (by decide) ?_
  refine lv_istore (lv' := [(4, .int (nI 0)), (3, .int (nI 41)), (2, .int (-1)), (0, .ref h), (1, .int (nI k))]) hx hb dR_smallestAround_6 hl (by decide) rfl (fun ls hl => ?_)
  have loop_8 : ∀ (n_8 : Nat) (i : Nat) (hd : Int32) (fw : Nat), i ≤ 40 → 40 < i + n_8 → bw_sR bl k i hd fw → ∀ (ls : Array Slot), lv_has ls 6 [(0, .ref h), (1, .int (nI k)), (2, .int hd), (3, .int (nI fw)), (4, .int (nI i))] → W p l e (headSpec wsR_smallestAround ({ frames := 2, cells := 0, slots := 0, locals := 42 } : Room)).room s m ([.ref h, .int (nI k)] : List Value).toArray below meth c s.heap [] 0 0 (MQ below (vp_Si (fun r => r = bw_h (bw_sm bl k 40))) ([.ref h, .int (nI k)] : List Value).toArray s 0 0 (fun _ => False)) (F0 m 8 ls []) := by
    intro n_8
    induction n_8 with
    | zero => intro i hd fw hii hfi hR; exfalso; omega
    | succ n_8 ih_8 =>
      intro i hd fw hii hfi hR ls hl
      have hfw := bw_sR_le hR
      have hc9 := bw_c_le (bl i) 40
      refine lv_iload hx hb dR_smallestAround_8 (lv_at hl 4 rfl) ?_
      refine lv_bipush (v := nI 40) hx hb dR_smallestAround_10 (by decide) ?_
      refine lv_icmp_ge (tgt := 59) hx hb dR_smallestAround_12 (by decide) (fun c_1 => ?_) (fun c_1 => ?_)
      · skip
        have c_1 : 40 ≤ i := (nI_leI (a := 40) (b := i) (by omega) (by omega)).mp c_1
        refine lv_iload_n hx hb dR_smallestAround_59 rfl (lv_at hl 2 rfl) ?_
        exact W.iret (v := hd) hx hb hr (fun t9 ht9 hW9 => ⟨_, rfl, (by rw [bw_sR_h hR, show i = 40 by omega]), ht9⟩) (fun q hq => nomatch hq) dR_smallestAround_60
      · skip
        have c_1 : ¬ 40 ≤ i := fun z => c_1 ((nI_leI (a := 40) (b := i) (by omega) (by omega)).mpr z)
        refine lv_aload_n hx hb dR_smallestAround_15 rfl (lv_at hl 0 rfl) ?_
        refine va_get (D := (dC, dI)) (ci := 0) (v := .ref a1) (C := RR) (T := TR) (N := 1) hx hb hT inR hown hK hP 0 rfl rfl 0 (by decide) (hT _ hw_60) (fun _ h9 => h9) rfl dR_smallestAround_16 ?_
        refine lv_iload hx hb dR_smallestAround_19 (lv_at hl 4 rfl) ?_
        refine bw_lald hx hb hK hP 1 0 (k := i) rfl rfl (by omega) (by decide) dR_smallestAround_21 ?_
        refine vp_callSi (W.runS (As := [.long (bl i)]) (rest := []) ⟨hx, hb, hml, hown, hT⟩ (c_bitCount l (bl i)) (va_cwS 1 hT g_R_51 rfl rfl rfl (by decide +kernel) ⟨Nat.le_of_ble_eq_true rfl, Nat.le_of_ble_eq_true rfl⟩) preEq rfl rfl hl.1 rfl (lv_room (Nat.le_of_ble_eq_true rfl)) dR_smallestAround_22 ⟨Nat.le_of_ble_eq_true rfl, Nat.le_of_ble_eq_true rfl⟩) (fun r_2 hr_2 => ?_)
        rw [hr_2]; clear hr_2
        rw [bw_c40 (hbl i (by omega))]
        refine lv_istore (lv' := [(5, .int (nI (bw_c (bl i) 40))), (0, .ref h), (1, .int (nI k)), (2, .int hd), (3, .int (nI fw)), (4, .int (nI i))]) hx hb dR_smallestAround_25 hl (by decide) rfl (fun ls hl => ?_)
        refine lv_aload_n hx hb dR_smallestAround_27 rfl (lv_at hl 1 rfl) ?_
        refine va_get (D := (dC, dI)) (ci := 0) (v := .ref a1) (C := RR) (T := TR) (N := 1) hx hb hT inR hown hK hP 0 rfl rfl 0 (by decide) (hT _ hw_60) (fun _ h9 => h9) rfl dR_smallestAround_28 ?_
        refine lv_iload hx hb dR_smallestAround_31 (lv_at hl 5 rfl) ?_
        refine bw_lald hx hb hK hP 1 0 (k := i) rfl rfl (by omega) (by decide) dR_smallestAround_33 ?_
        refine lv_iload_n hx hb dR_smallestAround_34 rfl (lv_at hl 2 rfl) ?_
        refine vp_callSi (bw_C (va_runSN (As := [.long (bl i), .int (nI k)]) (rest := []) ⟨hx, hb, hml, hown, hT⟩ (c_has l (bl i) k (by omega)) ⟨va_cnB 2 hT (bw_gi gn_B_has) rfl rfl rfl hN.2.2.2.2 (hT _ hw_18) (by decide +kernel) ⟨Nat.le_of_ble_eq_true rfl, Nat.le_of_ble_eq_true rfl⟩, hT _ hw_94, trivial⟩ preEq rfl rfl hl.1 rfl (lv_room (Nat.le_of_ble_eq_true rfl)) dR_smallestAround_35 ⟨Nat.le_of_ble_eq_true rfl, Nat.le_of_ble_eq_true rfl⟩)) (fun r_3 hr_3 => ?_)
        rw [hr_3]; clear hr_3
        refine lv_if_eq (tgt := 53) hx hb dR_smallestAround_38 (by decide) (fun c_4 => ?_) (fun c_4 => ?_)
        · skip
          have c_4 := bw_i0.mp c_4
          refine lv_iinc (v := nI (i + 1)) (lv' := [(4, .int (nI (i + 1))), (5, .int (nI (bw_c (bl i) 40))), (0, .ref h), (1, .int (nI k)), (2, .int hd), (3, .int (nI fw))]) hx hb dR_smallestAround_53 hl (k := 5) rfl (nI_1 _) (by decide) rfl (fun ls hl => ?_)
          refine lv_goto (tgt := 8) hx hb dR_smallestAround_56 (by decide) ?_
          exact ih_8 (i + 1) hd fw (by omega) (by omega) (by first | exact bw_sR_t hR c_1 c_4 | exact bw_sR_f hR c_4 | exact bw_sR_g hR c_4) ls (lv_sub hl [2, 3, 4, 5, 0] rfl)
        · skip
          have c_4 := bw_in0 c_4
          refine lv_iload hx hb dR_smallestAround_41 (lv_at hl 0 rfl) ?_
          refine lv_iload_n hx hb dR_smallestAround_43 rfl (lv_at hl 4 rfl) ?_
          refine lv_icmp_ge (tgt := 53) hx hb dR_smallestAround_44 (by decide) (fun c_5 => ?_) (fun c_5 => ?_)
          · skip
            have c_5 : fw ≤ (bw_c (bl i) 40) := (nI_leI (a := fw) (b := (bw_c (bl i) 40)) (by omega) (by omega)).mp c_5
            refine lv_iinc (v := nI (i + 1)) (lv' := [(4, .int (nI (i + 1))), (5, .int (nI (bw_c (bl i) 40))), (0, .ref h), (1, .int (nI k)), (2, .int hd), (3, .int (nI fw))]) hx hb dR_smallestAround_53 hl (k := 5) rfl (nI_1 _) (by decide) rfl (fun ls hl => ?_)
            refine lv_goto (tgt := 8) hx hb dR_smallestAround_56 (by decide) ?_
            exact ih_8 (i + 1) hd fw (by omega) (by omega) (by first | exact bw_sR_t hR c_4 c_5 | exact bw_sR_f hR c_5 | exact bw_sR_g hR c_5) ls (lv_sub hl [2, 3, 4, 5, 0] rfl)
          · skip
            have c_5 : ¬ fw ≤ (bw_c (bl i) 40) := fun z => c_5 ((nI_leI (a := fw) (b := (bw_c (bl i) 40)) (by omega) (by omega)).mpr z)
            refine lv_iload hx hb dR_smallestAround_47 (lv_at hl 5 rfl) ?_
            refine lv_istore_n (lv' := [(2, .int (nI i)), (5, .int (nI (bw_c (bl i) 40))), (0, .ref h), (1, .int (nI k)), (3, .int (nI fw)), (4, .int (nI i))]) hx hb dR_smallestAround_49 rfl hl (by decide) rfl (fun ls hl => ?_)
            refine lv_iload hx hb dR_smallestAround_50 (lv_at hl 1 rfl) ?_
            refine lv_istore_n (lv' := [(3, .int (nI (bw_c (bl i) 40))), (2, .int (nI i)), (5, .int (nI (bw_c (bl i) 40))), (0, .ref h), (1, .int (nI k)), (4, .int (nI i))]) hx hb dR_smallestAround_52 rfl hl (by decide) rfl (fun ls hl => ?_)
            refine lv_iinc (v := nI (i + 1)) (lv' := [(4, .int (nI (i + 1))), (3, .int (nI (bw_c (bl i) 40))), (2, .int (nI i)), (5, .int (nI (bw_c (bl i) 40))), (0, .ref h), (1, .int (nI k))]) hx hb dR_smallestAround_53 hl (k := 5) rfl (nI_1 _) (by decide) rfl (fun ls hl => ?_)
            refine lv_goto (tgt := 8) hx hb dR_smallestAround_56 (by decide) ?_
            exact ih_8 (i + 1) (nI i) (bw_c (bl i) 40) (by omega) (by omega) (by first | exact bw_sR_t hR c_4 c_5 | exact bw_sR_f hR c_5 | exact bw_sR_g hR c_5) ls (lv_sub hl [4, 5, 2, 1, 0] rfl)
  exact loop_8 41 0 (-1) 41 (by omega) (by omega) (bw_sR_0 bl k) ls (lv_sub hl [3, 4, 2, 1, 0] rfl)
