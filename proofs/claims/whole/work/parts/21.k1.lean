set_option maxHeartbeats 4000000 in
set_option maxRecDepth 100000 in
theorem c_bit (l : Launch) (k : Nat) : Met l yB_bit wsB_bit ({ frames := 0, cells := 0, slots := 0, locals := 0 } : Room) (fun v _ => v = ([.int (nI k)] : List Value).toArray) (vp_Sl (fun r => r = bw_b k)) 0 0 (fun _ => False) := by
  refine Met.ofW (cc := cB_bit) (maxL := 1) (ret := (some .long)) (by decide) rfl ?_
  intro p e s m args below meth c s₁ B hml hv
  obtain rfl := hv
  have hx := B.exec
  have hb := B.bytes
  have hr := B.returns
  have hts := atoms_spec (ws := wsB_bit) B.pre
  have hT : ∀ w ∈ bwB, w.before _ s = true := fun w h => hts w (List.mem_cons_of_mem _ h)
  have hown : s.vm.findClass RB = some m.cls := findClass_of_methodNamed B.named
  have hlocks := B.notSynchronized
  have hl := lv_entry ([.int (nI k)]) (n := 1) (Nat.le_of_ble_eq_true rfl)
  rw [lg_entry_eq]
  generalize (lg_sl ([.int (nI k)]) ++ List.replicate (1 - (lg_sl ([.int (nI k)])).length) Slot.unset).toArray = ls at hl ⊢
  have hl : lv_has ls 1 [(0, .int (nI k))] := hl
  refine lv_lconst (v := 1) hx hb dB_bit_0 (by decide) ?_
  refine lv_iload_n hx hb dB_bit_1 rfl (lv_at hl 0 rfl) ?_
  refine lv_lshl hx hb dB_bit_2 rfl ?_
  exact W.lret (v := 1 <<< ((nI k).toInt64 &&& 63)) hx hb hr (fun t9 ht9 hW9 => ⟨_, rfl, rfl, ht9⟩) (fun q hq => nomatch hq) dB_bit_3
set_option maxHeartbeats 4000000 in
set_option maxRecDepth 100000 in
theorem c_isB1 (l : Launch) (k : Nat) (hk : k < 40) : Met l yB_isBlock wsB_isBlock ({ frames := 0, cells := 0, slots := 0, locals := 0 } : Room) (fun v _ => v = ([.int (nI k)] : List Value).toArray) (vp_Si (fun r => r = 1)) 0 0 (fun _ => False) := by
  refine Met.ofW (cc := cB_isBlock) (maxL := 1) (ret := (some .boolean)) (by decide) rfl ?_
  intro p e s m args below meth c s₁ B hml hv
  obtain rfl := hv
  have hx := B.exec
  have hb := B.bytes
  have hr := B.returns
  have hts := atoms_spec (ws := wsB_isBlock) B.pre
  have hT : ∀ w ∈ bwB, w.before _ s = true := fun w h => hts w (List.mem_cons_of_mem _ h)
  have hown : s.vm.findClass RB = some m.cls := findClass_of_methodNamed B.named
  have hlocks := B.notSynchronized
  have hl := lv_entry ([.int (nI k)]) (n := 1) (Nat.le_of_ble_eq_true rfl)
  rw [lg_entry_eq]
  generalize (lg_sl ([.int (nI k)]) ++ List.replicate (1 - (lg_sl ([.int (nI k)])).length) Slot.unset).toArray = ls at hl ⊢
  have hl : lv_has ls 1 [(0, .int (nI k))] := hl
  refine lv_iload_n hx hb dB_isBlock_0 rfl (lv_at hl 0 rfl) ?_
  refine lv_if_lt (tgt := 14) hx hb dB_isBlock_1 (by decide) (fun c_1 => ?_) (fun c_1 => ?_)
  · skip
    exact absurd c_1 (nI_pos (by omega))
  · skip
    refine lv_iload_n hx hb dB_isBlock_4 rfl (lv_at hl 0 rfl) ?_
    refine lv_bipush (v := nI 40) hx hb dB_isBlock_5 (by decide) ?_
    refine lv_icmp_ge (tgt := 14) hx hb dB_isBlock_7 (by decide) (fun c_2 => ?_) (fun c_2 => ?_)
    · skip
      have c_2 : 40 ≤ k := (nI_leI (a := 40) (b := k) (by omega) (by omega)).mp c_2
      exact absurd c_2 (by omega)
    · skip
      have c_2 : ¬ 40 ≤ k := fun z => c_2 ((nI_leI (a := 40) (b := k) (by omega) (by omega)).mpr z)
      refine lv_iconst (v := 1) hx hb dB_isBlock_10 (by decide) ?_
      refine lv_goto (tgt := 15) hx hb dB_isBlock_11 (by decide) ?_
      exact W.zret (v := 1) hx hb hr rfl (fun t9 ht9 hW9 => ⟨_, rfl, rfl, ht9⟩) (fun q hq => nomatch hq) dB_isBlock_15
set_option maxHeartbeats 4000000 in
set_option maxRecDepth 100000 in
theorem c_isB0 (l : Launch) (b : Int32) (hb9 : ∀ k, k < 40 → ¬ b = nI k) : Met l yB_isBlock wsB_isBlock ({ frames := 0, cells := 0, slots := 0, locals := 0 } : Room) (fun v _ => v = ([.int b] : List Value).toArray) (vp_Si (fun r => r = 0)) 0 0 (fun _ => False) := by
  refine Met.ofW (cc := cB_isBlock) (maxL := 1) (ret := (some .boolean)) (by decide) rfl ?_
  intro p e s m args below meth c s₁ B hml hv
  obtain rfl := hv
  have hx := B.exec
  have hb := B.bytes
  have hr := B.returns
  have hts := atoms_spec (ws := wsB_isBlock) B.pre
  have hT : ∀ w ∈ bwB, w.before _ s = true := fun w h => hts w (List.mem_cons_of_mem _ h)
  have hown : s.vm.findClass RB = some m.cls := findClass_of_methodNamed B.named
  have hlocks := B.notSynchronized
  have hl := lv_entry ([.int b]) (n := 1) (Nat.le_of_ble_eq_true rfl)
  rw [lg_entry_eq]
  generalize (lg_sl ([.int b]) ++ List.replicate (1 - (lg_sl ([.int b])).length) Slot.unset).toArray = ls at hl ⊢
  have hl : lv_has ls 1 [(0, .int b)] := hl
  refine lv_iload_n hx hb dB_isBlock_0 rfl (lv_at hl 0 rfl) ?_
  refine lv_if_lt (tgt := 14) hx hb dB_isBlock_1 (by decide) (fun c_1 => ?_) (fun c_1 => ?_)
  · skip
    refine lv_iconst (v := 0) hx hb dB_isBlock_14 (by decide) ?_
    exact W.zret (v := 0) hx hb hr rfl (fun t9 ht9 hW9 => ⟨_, rfl, rfl, ht9⟩) (fun q hq => nomatch hq) dB_isBlock_15
  · skip
    refine lv_iload_n hx hb dB_isBlock_4 rfl (lv_at hl 0 rfl) ?_
    refine lv_bipush (v := nI 40) hx hb dB_isBlock_5 (by decide) ?_
    refine lv_icmp_ge (tgt := 14) hx hb dB_isBlock_7 (by decide) (fun c_2 => ?_) (fun c_2 => ?_)
    · skip
      refine lv_iconst (v := 0) hx hb dB_isBlock_14 (by decide) ?_
      exact W.zret (v := 0) hx hb hr rfl (fun t9 ht9 hW9 => ⟨_, rfl, rfl, ht9⟩) (fun q hq => nomatch hq) dB_isBlock_15
    · skip
      rcases pk_ix b (n := 40) (by decide) with z | z | ⟨j, z1, z2⟩
      · exact absurd z c_1
      · exact absurd z c_2
      · exact absurd z2 (hb9 j z1)
set_option maxHeartbeats 4000000 in
set_option maxRecDepth 100000 in
theorem c_has (l : Launch) (x : Int64) (k : Nat) (hk : k < 64) : Met l yB_has wsB_has ({ frames := 1, cells := 0, slots := 0, locals := 20 } : Room) (fun v _ => v = ([.long x, .int (nI k)] : List Value).toArray) (vp_Si (fun r => r = bw_i (bw_m x k))) 0 0 (fun _ => False) := by
  refine Met.ofW (cc := cB_has) (maxL := 3) (ret := (some .boolean)) (by decide) rfl ?_
  intro p e s m args below meth c s₁ B hml hv
  obtain rfl := hv
  have hx := B.exec
  have hb := B.bytes
  have hr := B.returns
  have hts := atoms_spec (ws := wsB_has) B.pre
  have hT : ∀ w ∈ bwB, w.before _ s = true := fun w h => hts w (List.mem_cons_of_mem _ h)
  have hown : s.vm.findClass RB = some m.cls := findClass_of_methodNamed B.named
  have hlocks := B.notSynchronized
  have hl := lv_entry ([.long x, .int (nI k)]) (n := 3) (Nat.le_of_ble_eq_true rfl)
  rw [lg_entry_eq]
  generalize (lg_sl ([.long x, .int (nI k)]) ++ List.replicate (3 - (lg_sl ([.long x, .int (nI k)])).length) Slot.unset).toArray = ls at hl ⊢
  have hl : lv_has ls 3 [(0, .long x), (2, .int (nI k))] := hl
  refine lv_lload_n hx hb dB_has_0 rfl (lv_at hl 0 rfl) ?_
  refine lv_iload_n hx hb dB_has_1 rfl (lv_at hl 1 rfl) ?_
  refine vp_callSl (W.runS (As := [.int (nI k)]) (rest := [.long x]) ⟨hx, hb, hml, hown, hT⟩ (c_bit l k) (cwS 1 hT g_B_49 rfl rfl rfl (by decide +kernel) ⟨Nat.le_of_ble_eq_true rfl, Nat.le_of_ble_eq_true rfl⟩) preEq rfl rfl hl.1 rfl (lv_room (Nat.le_of_ble_eq_true rfl)) dB_has_2 ⟨Nat.le_of_ble_eq_true rfl, Nat.le_of_ble_eq_true rfl⟩) (fun r_1 hr_1 => ?_)
  rw [hr_1]; clear hr_1
  refine lv_land hx hb dB_has_5 ?_
  refine lv_lconst (v := 0) hx hb dB_has_6 (by decide) ?_
  refine W.lcmp hx hb dB_has_7 ?_
  refine lv_if_eq (tgt := 15) hx hb dB_has_8 (by decide) (fun c_2 => ?_) (fun c_2 => ?_)
  · skip
    have c_2 := bw_cmp0.mp c_2
    refine lv_iconst (v := 0) hx hb dB_has_15 (by decide) ?_
    exact W.zret (v := 0) hx hb hr rfl (fun t9 ht9 hW9 => ⟨_, rfl, (by first | exact (bw_iF ((bw_has hk).mp c_2)).symm | exact (bw_iT (bw_hasT hk c_2)).symm), ht9⟩) (fun q hq => nomatch hq) dB_has_16
  · skip
    have c_2 := fun z => c_2 (bw_cmp0.mpr z)
    refine lv_iconst (v := 1) hx hb dB_has_11 (by decide) ?_
    refine lv_goto (tgt := 16) hx hb dB_has_12 (by decide) ?_
    exact W.zret (v := 1) hx hb hr rfl (fun t9 ht9 hW9 => ⟨_, rfl, (by first | exact (bw_iF ((bw_has hk).mp c_2)).symm | exact (bw_iT (bw_hasT hk c_2)).symm), ht9⟩) (fun q hq => nomatch hq) dB_has_16
set_option maxHeartbeats 4000000 in
set_option maxRecDepth 100000 in
theorem c_bitCount (l : Launch) (x : Int64) : Met l yJ_bitCount wsJ_bitCount ({ frames := 0, cells := 0, slots := 0, locals := 0 } : Room) (fun v _ => v = ([.long x] : List Value).toArray) (vp_Si (fun r => r = nI (bw_c x 64))) 0 0 (fun _ => False) := by
  refine Met.ofW (cc := cJ_bitCount) (maxL := 2) (ret := (some .int)) (by decide) rfl ?_
  intro p e s m args below meth c s₁ B hml hv
  obtain rfl := hv
  have hx := B.exec
  have hb := B.bytes
  have hr := B.returns
  have hts := atoms_spec (ws := wsJ_bitCount) B.pre
  have hT : ∀ w ∈ bwB, w.before _ s = true := fun w h => hts w (List.mem_cons_of_mem _ h)
  have hown : s.vm.findClass RJ = some m.cls := findClass_of_methodNamed B.named
  have hlocks := B.notSynchronized
  have hl := lv_entry ([.long x]) (n := 2) (Nat.le_of_ble_eq_true rfl)
  rw [lg_entry_eq]
  generalize (lg_sl ([.long x]) ++ List.replicate (2 - (lg_sl ([.long x])).length) Slot.unset).toArray = ls at hl ⊢
  have hl : lv_has ls 2 [(0, .long x)] := hl
  refine lv_lload_n hx hb dJ_bitCount_0 rfl (lv_at hl 0 rfl) ?_
  refine lv_lload_n hx hb dJ_bitCount_1 rfl (lv_at hl 0 rfl) ?_
  refine lv_iconst (v := 1) hx hb dJ_bitCount_2 (by decide) ?_
  refine lv_lushr hx hb dJ_bitCount_3 rfl ?_
  refine lv_ldc2 (v := 6148914691236517205) hx hb hown (hT _ hw_137) dJ_bitCount_4 ?_
  refine lv_land hx hb dJ_bitCount_7 ?_
  refine lv_lsub hx hb dJ_bitCount_8 ?_
  refine lv_topl (fun x1 ex1 => ?_)
  refine lv_lstore_n (lv' := [(0, .long x1)]) hx hb dJ_bitCount_9 rfl hl (by decide) rfl (fun ls hl => ?_)
  refine lv_lload_n hx hb dJ_bitCount_10 rfl (lv_at hl 0 rfl) ?_
  refine lv_ldc2 (v := 3689348814741910323) hx hb hown (hT _ hw_138) dJ_bitCount_11 ?_
  refine lv_land hx hb dJ_bitCount_14 ?_
  refine lv_lload_n hx hb dJ_bitCount_15 rfl (lv_at hl 0 rfl) ?_
  refine lv_iconst (v := 2) hx hb dJ_bitCount_16 (by decide) ?_
  refine lv_lushr hx hb dJ_bitCount_17 rfl ?_
  refine lv_ldc2 (v := 3689348814741910323) hx hb hown (hT _ hw_138) dJ_bitCount_18 ?_
  refine lv_land hx hb dJ_bitCount_21 ?_
  refine lv_ladd hx hb dJ_bitCount_22 ?_
  refine lv_topl (fun x2 ex2 => ?_)
  refine lv_lstore_n (lv' := [(0, .long x2)]) hx hb dJ_bitCount_23 rfl hl (by decide) rfl (fun ls hl => ?_)
  refine lv_lload_n hx hb dJ_bitCount_24 rfl (lv_at hl 0 rfl) ?_
  refine lv_lload_n hx hb dJ_bitCount_25 rfl (lv_at hl 0 rfl) ?_
  refine lv_iconst (v := 4) hx hb dJ_bitCount_26 (by decide) ?_
  refine lv_lushr hx hb dJ_bitCount_27 rfl ?_
  refine lv_ladd hx hb dJ_bitCount_28 ?_
  refine lv_ldc2 (v := 1085102592571150095) hx hb hown (hT _ hw_139) dJ_bitCount_29 ?_
  refine lv_land hx hb dJ_bitCount_32 ?_
  refine lv_topl (fun x3 ex3 => ?_)
  refine lv_lstore_n (lv' := [(0, .long x3)]) hx hb dJ_bitCount_33 rfl hl (by decide) rfl (fun ls hl => ?_)
  refine lv_lload_n hx hb dJ_bitCount_34 rfl (lv_at hl 0 rfl) ?_
  refine lv_lload_n hx hb dJ_bitCount_35 rfl (lv_at hl 0 rfl) ?_
  refine lv_bipush (v := 8) hx hb dJ_bitCount_36 (by decide) ?_
  refine lv_lushr hx hb dJ_bitCount_38 rfl ?_
  refine lv_ladd hx hb dJ_bitCount_39 ?_
  refine lv_topl (fun y1 ey1 => ?_)
  refine lv_lstore_n (lv' := [(0, .long y1)]) hx hb dJ_bitCount_40 rfl hl (by decide) rfl (fun ls hl => ?_)
  refine lv_lload_n hx hb dJ_bitCount_41 rfl (lv_at hl 0 rfl) ?_
  refine lv_lload_n hx hb dJ_bitCount_42 rfl (lv_at hl 0 rfl) ?_
  refine lv_bipush (v := 16) hx hb dJ_bitCount_43 (by decide) ?_
  refine lv_lushr hx hb dJ_bitCount_45 rfl ?_
  refine lv_ladd hx hb dJ_bitCount_46 ?_
  refine lv_topl (fun y2 ey2 => ?_)
  refine lv_lstore_n (lv' := [(0, .long y2)]) hx hb dJ_bitCount_47 rfl hl (by decide) rfl (fun ls hl => ?_)
  refine lv_lload_n hx hb dJ_bitCount_48 rfl (lv_at hl 0 rfl) ?_
  refine lv_lload_n hx hb dJ_bitCount_49 rfl (lv_at hl 0 rfl) ?_
  refine lv_bipush (v := 32) hx hb dJ_bitCount_50 (by decide) ?_
  refine lv_lushr hx hb dJ_bitCount_52 rfl ?_
  refine lv_ladd hx hb dJ_bitCount_53 ?_
  refine lv_topl (fun y3 ey3 => ?_)
  refine lv_lstore_n (lv' := [(0, .long y3)]) hx hb dJ_bitCount_54 rfl hl (by decide) rfl (fun ls hl => ?_)
  refine lv_lload_n hx hb dJ_bitCount_55 rfl (lv_at hl 0 rfl) ?_
  refine lv_l2i hx hb dJ_bitCount_56 rfl ?_
  refine lv_bipush (v := 127) hx hb dJ_bitCount_57 (by decide) ?_
  refine lv_iand hx hb dJ_bitCount_59 ?_
  exact W.iret (v := y3.toInt32 &&& 127) hx hb hr (fun t9 ht9 hW9 => ⟨_, rfl, bw_pop ex1 ex2 ex3 ey1 ey2 ey3, ht9⟩) (fun q hq => nomatch hq) dJ_bitCount_60
set_option maxHeartbeats 4000000 in
set_option maxRecDepth 100000 in
theorem c_lowest (l : Launch) (x : Int64) : Met l yB_lowest wsB_lowest ({ frames := 1, cells := 0, slots := 0, locals := 21 } : Room) (fun v _ => v = ([.long x] : List Value).toArray) (vp_Si (fun r => r = nI (bw_lo x))) 0 0 (fun _ => False) := by
  refine Met.ofW (cc := cB_lowest) (maxL := 2) (ret := (some .int)) (by decide) rfl ?_
  intro p e s m args below meth c s₁ B hml hv
  obtain rfl := hv
  have hx := B.exec
  have hb := B.bytes
  have hr := B.returns
  have hts := atoms_spec (ws := wsB_lowest) B.pre
  have hT : ∀ w ∈ bwB, w.before _ s = true := fun w h => hts w (List.mem_cons_of_mem _ h)
  have hown : s.vm.findClass RB = some m.cls := findClass_of_methodNamed B.named
  have hlocks := B.notSynchronized
  have hl := lv_entry ([.long x]) (n := 2) (Nat.le_of_ble_eq_true rfl)
  rw [lg_entry_eq]
  generalize (lg_sl ([.long x]) ++ List.replicate (2 - (lg_sl ([.long x])).length) Slot.unset).toArray = ls at hl ⊢
  have hl : lv_has ls 2 [(0, .long x)] := hl
  refine lv_lload_n hx hb dB_lowest_0 rfl (lv_at hl 0 rfl) ?_
  refine lv_lload_n hx hb dB_lowest_1 rfl (lv_at hl 0 rfl) ?_
  refine lv_lneg hx hb dB_lowest_2 ?_
  refine lv_land hx hb dB_lowest_3 ?_
  refine lv_lconst (v := 1) hx hb dB_lowest_4 (by decide) ?_
  refine lv_lsub hx hb dB_lowest_5 ?_
  refine vp_callSi (W.runS (As := [.long ((x &&& (-x)) - 1)]) (rest := []) ⟨hx, hb, hml, hown, hT⟩ (c_bitCount l ((x &&& (-x)) - 1)) (va_cwS 1 hT g_B_72 rfl rfl rfl (by decide +kernel) ⟨Nat.le_of_ble_eq_true rfl, Nat.le_of_ble_eq_true rfl⟩) preEq rfl rfl hl.1 rfl (lv_room (Nat.le_of_ble_eq_true rfl)) dB_lowest_6 ⟨Nat.le_of_ble_eq_true rfl, Nat.le_of_ble_eq_true rfl⟩) (fun r_1 hr_1 => ?_)
  rw [hr_1]; clear hr_1
  exact W.iret (v := nI (bw_c ((x &&& (-x)) - 1) 64)) hx hb hr (fun t9 ht9 hW9 => ⟨_, rfl, rfl, ht9⟩) (fun q hq => nomatch hq) dB_lowest_9
set_option maxHeartbeats 4000000 in
set_option maxRecDepth 100000 in
theorem c_covered (l : Launch) (dC : Nat → ClassId) (dI : Nat → Nat → Nat) (h a1 a2 : Nat) (cL : ClassId) (st gt : Nat → Int64) (cv : Int64) : Met l yS_covered wsS_covered ({ frames := 0, cells := 0, slots := 0, locals := 0 } : Room) (bw_Ro (dC, dI) [(cL, .long)] [(h, .inr (1, [.ref a1, .ref a2, .long cv])), (a1, .inl (cL, 40, .inr (.inl st))), (a2, .inl (cL, 40, .inr (.inl gt)))] [.ref h]) (vp_Sl (fun r => r = cv)) 0 0 (fun _ => False) := by
  refine Met.ofW (cc := cS_covered) (maxL := 1) (ret := (some .long)) (by decide) rfl ?_
  intro p e s m args below meth c s₁ B hml hv
  obtain ⟨rfl, hP, hK, hN⟩ := hv
  have hx := B.exec
  have hb := B.bytes
  have hr := B.returns
  have hts := atoms_spec (ws := wsS_covered) B.pre
  have hT : ∀ w ∈ bwB, w.before _ s = true := fun w h => hts w (List.mem_cons_of_mem _ h)
  have hown : s.vm.findClass RS = some m.cls := findClass_of_methodNamed B.named
  have hlocks := B.notSynchronized
  have hl := lv_entry ([.ref h]) (n := 1) (Nat.le_of_ble_eq_true rfl)
  rw [lg_entry_eq]
  generalize (lg_sl ([.ref h]) ++ List.replicate (1 - (lg_sl ([.ref h])).length) Slot.unset).toArray = ls at hl ⊢
  have hl : lv_has ls 1 [(0, .ref h)] := hl
  refine lv_aload_n hx hb dS_covered_0 rfl (lv_at hl 0 rfl) ?_
  refine va_get (D := (dC, dI)) (ci := 1) (v := .long cv) (C := RS) (T := TS) (N := 3) hx hb hT inS hown hK hP 0 rfl rfl 2 (by decide) (hT _ hw_44) (fun _ h9 => h9) rfl dS_covered_1 ?_
  exact W.lret (v := cv) hx hb hr (fun t9 ht9 hW9 => ⟨_, rfl, rfl, ht9⟩) (fun q hq => nomatch hq) dS_covered_4
set_option maxHeartbeats 4000000 in
set_option maxRecDepth 100000 in
theorem c_stepsOf (l : Launch) (dC : Nat → ClassId) (dI : Nat → Nat → Nat) (h a1 a2 : Nat) (cL : ClassId) (st gt : Nat → Int64) (cv : Int64) (k : Nat) (hk : k < 40) : Met l yS_stepsOf wsS_stepsOf ({ frames := 0, cells := 0, slots := 0, locals := 0 } : Room) (bw_Ro (dC, dI) [(cL, .long)] [(h, .inr (1, [.ref a1, .ref a2, .long cv])), (a1, .inl (cL, 40, .inr (.inl st))), (a2, .inl (cL, 40, .inr (.inl gt)))] [.ref h, .int (nI k)]) (vp_Sl (fun r => r = st k)) 0 0 (fun _ => False) := by
  refine Met.ofW (cc := cS_stepsOf) (maxL := 2) (ret := (some .long)) (by decide) rfl ?_
  intro p e s m args below meth c s₁ B hml hv
  obtain ⟨rfl, hP, hK, hN⟩ := hv
  have hx := B.exec
  have hb := B.bytes
  have hr := B.returns
  have hts := atoms_spec (ws := wsS_stepsOf) B.pre
  have hT : ∀ w ∈ bwB, w.before _ s = true := fun w h => hts w (List.mem_cons_of_mem _ h)
  have hown : s.vm.findClass RS = some m.cls := findClass_of_methodNamed B.named
  have hlocks := B.notSynchronized
  have hl := lv_entry ([.ref h, .int (nI k)]) (n := 2) (Nat.le_of_ble_eq_true rfl)
  rw [lg_entry_eq]
  generalize (lg_sl ([.ref h, .int (nI k)]) ++ List.replicate (2 - (lg_sl ([.ref h, .int (nI k)])).length) Slot.unset).toArray = ls at hl ⊢
  have hl : lv_has ls 2 [(0, .ref h), (1, .int (nI k))] := hl
  refine lv_aload_n hx hb dS_stepsOf_0 rfl (lv_at hl 0 rfl) ?_
  refine va_get (D := (dC, dI)) (ci := 1) (v := .ref a1) (C := RS) (T := TS) (N := 3) hx hb hT inS hown hK hP 0 rfl rfl 0 (by decide) (hT _ hw_42) (fun _ h9 => h9) rfl dS_stepsOf_1 ?_
  refine lv_iload_n hx hb dS_stepsOf_4 rfl (lv_at hl 1 rfl) ?_
  refine bw_lald hx hb hK hP 1 0 (k := k) rfl rfl (by omega) (by decide) dS_stepsOf_5 ?_
  exact W.lret (v := st k) hx hb hr (fun t9 ht9 hW9 => ⟨_, rfl, rfl, ht9⟩) (fun q hq => nomatch hq) dS_stepsOf_6
set_option maxHeartbeats 4000000 in
set_option maxRecDepth 100000 in
theorem c_gated (l : Launch) (dC : Nat → ClassId) (dI : Nat → Nat → Nat) (h a1 a2 : Nat) (cL : ClassId) (st gt : Nat → Int64) (cv : Int64) (k : Nat) (hk : k < 40) : Met l yS_gated wsS_gated ({ frames := 0, cells := 0, slots := 0, locals := 0 } : Room) (bw_Ro (dC, dI) [(cL, .long)] [(h, .inr (1, [.ref a1, .ref a2, .long cv])), (a1, .inl (cL, 40, .inr (.inl st))), (a2, .inl (cL, 40, .inr (.inl gt)))] [.ref h, .int (nI k)]) (vp_Sl (fun r => r = gt k)) 0 0 (fun _ => False) := by
  refine Met.ofW (cc := cS_gated) (maxL := 2) (ret := (some .long)) (by decide) rfl ?_
  intro p e s m args below meth c s₁ B hml hv
  obtain ⟨rfl, hP, hK, hN⟩ := hv
  have hx := B.exec
  have hb := B.bytes
  have hr := B.returns
  have hts := atoms_spec (ws := wsS_gated) B.pre
  have hT : ∀ w ∈ bwB, w.before _ s = true := fun w h => hts w (List.mem_cons_of_mem _ h)
  have hown : s.vm.findClass RS = some m.cls := findClass_of_methodNamed B.named
  have hlocks := B.notSynchronized
  have hl := lv_entry ([.ref h, .int (nI k)]) (n := 2) (Nat.le_of_ble_eq_true rfl)
  rw [lg_entry_eq]
  generalize (lg_sl ([.ref h, .int (nI k)]) ++ List.replicate (2 - (lg_sl ([.ref h, .int (nI k)])).length) Slot.unset).toArray = ls at hl ⊢
  have hl : lv_has ls 2 [(0, .ref h), (1, .int (nI k))] := hl
  refine lv_aload_n hx hb dS_gated_0 rfl (lv_at hl 0 rfl) ?_
  refine va_get (D := (dC, dI)) (ci := 1) (v := .ref a2) (C := RS) (T := TS) (N := 3) hx hb hT inS hown hK hP 0 rfl rfl 1 (by decide) (hT _ hw_43) (fun _ h9 => h9) rfl dS_gated_1 ?_
  refine lv_iload_n hx hb dS_gated_4 rfl (lv_at hl 1 rfl) ?_
  refine bw_lald hx hb hK hP 2 0 (k := k) rfl rfl (by omega) (by decide) dS_gated_5 ?_
  exact W.lret (v := gt k) hx hb hr (fun t9 ht9 hW9 => ⟨_, rfl, rfl, ht9⟩) (fun q hq => nomatch hq) dS_gated_6
set_option maxHeartbeats 4000000 in
set_option maxRecDepth 100000 in
theorem c_flood (l : Launch) (dC : Nat → ClassId) (dI : Nat → Nat → Nat) (h a1 a2 : Nat) (cL : ClassId) (st gt : Nat → Int64) (cv : Int64) (fi al : Int64) : Met l yS_flood wsS_flood ({ frames := 2, cells := 0, slots := 0, locals := 42 } : Room) (bw_Ro (dC, dI) [(cL, .long)] [(h, .inr (1, [.ref a1, .ref a2, .long cv])), (a1, .inl (cL, 40, .inr (.inl st))), (a2, .inl (cL, 40, .inr (.inl gt)))] [.ref h, .long fi, .long al]) (vp_Sl (fun r => r = bw_flood st fi al)) 0 0 (fun _ => False) := by
  refine Met.ofW (cc := cS_flood) (maxL := 13) (ret := (some .long)) (by decide) rfl ?_
  intro p e s m args below meth c s₁ B hml hv
  obtain ⟨rfl, hP, hK, hN⟩ := hv
  have hx := B.exec
  have hb := B.bytes
  have hr := B.returns
  have hts := atoms_spec (ws := wsS_flood) B.pre
  have hT : ∀ w ∈ bwB, w.before _ s = true := fun w h => hts w (List.mem_cons_of_mem _ h)
  have hown : s.vm.findClass RS = some m.cls := findClass_of_methodNamed B.named
  have hlocks := B.notSynchronized
  have hl := lv_entry ([.ref h, .long fi, .long al]) (n := 13) (Nat.le_of_ble_eq_true rfl)
  rw [lg_entry_eq]
  generalize (lg_sl ([.ref h, .long fi, .long al]) ++ List.replicate (13 - (lg_sl ([.ref h, .long fi, .long al])).length) Slot.unset).toArray = ls at hl ⊢
  have hl : lv_has ls 13 [(0, .ref h), (1, .long fi), (3, .long al)] := hl
  refine lv_lload_n hx hb dS_flood_0 rfl (lv_at hl 1 rfl) ?_
  refine lv_lload_n hx hb dS_flood_1 rfl (lv_at hl 2 rfl) ?_
  refine lv_land hx hb dS_flood_2 ?_
  refine lv_lstore (lv' := [(5, .long (fi &&& al)), (0, .ref h), (1, .long fi), (3, .long al)]) hx hb dS_flood_3 hl (by decide) rfl (fun ls hl => ?_)
  refine lv_lload hx hb dS_flood_5 (lv_at hl 0 rfl) ?_
  refine lv_lstore (lv' := [(7, .long (fi &&& al)), (5, .long (fi &&& al)), (0, .ref h), (1, .long fi), (3, .long al)]) hx hb dS_flood_7 hl (by decide) rfl (fun ls hl => ?_)
  refine lv_lload hx hb dS_flood_9 (lv_at hl 0 rfl) ?_
  refine vp_callSi (bw_C (va_runSN (As := [.long (fi &&& al)]) (rest := []) ⟨hx, hb, hml, hown, hT⟩ (c_lowest l (fi &&& al)) ⟨va_cnB 1 hT (bw_gi gn_B_lowest) rfl rfl rfl hN.2.1 (hT _ hw_18) (by decide +kernel) ⟨Nat.le_of_ble_eq_true rfl, Nat.le_of_ble_eq_true rfl⟩, hT _ hw_157, trivial⟩ preEq rfl rfl hl.1 rfl (lv_room (Nat.le_of_ble_eq_true rfl)) dS_flood_11 ⟨Nat.le_of_ble_eq_true rfl, Nat.le_of_ble_eq_true rfl⟩)) (fun r_1 hr_1 => ?_)
  rw [hr_1]; clear hr_1
  refine lv_istore (lv' := [(9, .int (nI (bw_lo (fi &&& al)))), (7, .long (fi &&& al)), (5, .long (fi &&& al)), (0, .ref h), (1, .long fi), (3, .long al)]) hx hb dS_flood_14 hl (by decide) rfl (fun ls hl => ?_)
  refine lv_iconst (v := nI 0) hx hb dS_flood_16 (by decide) ?_
  refine lv_istore (lv' := [(10, .int (nI 0)), (9, .int (nI (bw_lo (fi &&& al)))), (7, .long (fi &&& al)), (5, .long (fi &&& al)), (0, .ref h), (1, .long fi), (3, .long al)]) hx hb dS_flood_17 hl (by decide) rfl (fun ls hl => ?_)
  have loop_19 : ∀ (n_19 : Nat) (t : Nat) (f : Int64) (o : Int64), t ≤ 40 → 40 < t + n_19 → bw_fl st al (40 - t) f o = bw_flood st fi al → ∀ (ls : Array Slot), lv_has ls 13 [(0, .ref h), (1, .long fi), (3, .long al), (5, .long f), (7, .long o), (9, .int (nI (bw_lo o))), (10, .int (nI t))] → W p l e (headSpec wsS_flood ({ frames := 2, cells := 0, slots := 0, locals := 42 } : Room)).room s m ([.ref h, .long fi, .long al] : List Value).toArray below meth c s.heap [] 0 0 (MQ below (vp_Sl (fun r => r = bw_flood st fi al)) ([.ref h, .long fi, .long al] : List Value).toArray s 0 0 (fun _ => False)) (F0 m 19 ls []) := by
    intro n_19
    induction n_19 with
    | zero => intro t f o ht hf hR; exfalso; omega
    | succ n_19 ih_19 =>
      intro t f o ht hf hR ls hl
      have hlo := bw_lo_le o
      refine lv_iload hx hb dS_flood_19 (lv_at hl 6 rfl) ?_
      refine lv_bipush (v := nI 40) hx hb dS_flood_21 (by decide) ?_
      refine lv_icmp_ge (tgt := 88) hx hb dS_flood_23 (by decide) (fun c_2 => ?_) (fun c_2 => ?_)
      · skip
        have c_2 : 40 ≤ t := (nI_leI (a := 40) (b := t) (by omega) (by omega)).mp c_2
        refine lv_lload hx hb dS_flood_88 (lv_at hl 3 rfl) ?_
        exact W.lret (v := f) hx hb hr (fun t9 ht9 hW9 => ⟨_, rfl, (by first | (rw [← hR, show 40 - t = 0 by omega]; rfl) | (rw [← hR, bw_fl_x (by omega)])), ht9⟩) (fun q hq => nomatch hq) dS_flood_90
      · skip
        have c_2 : ¬ 40 ≤ t := fun z => c_2 ((nI_leI (a := 40) (b := t) (by omega) (by omega)).mpr z)
        refine lv_iload hx hb dS_flood_26 (lv_at hl 5 rfl) ?_
        refine lv_bipush (v := nI 40) hx hb dS_flood_28 (by decide) ?_
        refine lv_icmp_ge (tgt := 88) hx hb dS_flood_30 (by decide) (fun c_3 => ?_) (fun c_3 => ?_)
        · skip
          have c_3 : 40 ≤ (bw_lo o) := (nI_leI (a := 40) (b := (bw_lo o)) (by omega) (by omega)).mp c_3
          refine lv_lload hx hb dS_flood_88 (lv_at hl 3 rfl) ?_
          exact W.lret (v := f) hx hb hr (fun t9 ht9 hW9 => ⟨_, rfl, (by first | (rw [← hR, show 40 - t = 0 by omega]; rfl) | (rw [← hR, bw_fl_x (by omega)])), ht9⟩) (fun q hq => nomatch hq) dS_flood_90
        · skip
          have c_3 : ¬ 40 ≤ (bw_lo o) := fun z => c_3 ((nI_leI (a := 40) (b := (bw_lo o)) (by omega) (by omega)).mpr z)
          refine lv_aload_n hx hb dS_flood_33 rfl (lv_at hl 0 rfl) ?_
          refine va_get (D := (dC, dI)) (ci := 1) (v := .ref a1) (C := RS) (T := TS) (N := 3) hx hb hT inS hown hK hP 0 rfl rfl 0 (by decide) (hT _ hw_42) (fun _ h9 => h9) rfl dS_flood_34 ?_
          refine lv_iload hx hb dS_flood_37 (lv_at hl 5 rfl) ?_
          refine bw_lald hx hb hK hP 1 0 (k := (bw_lo o)) rfl rfl (by omega) (by decide) dS_flood_39 ?_
          refine lv_lload_n hx hb dS_flood_40 rfl (lv_at hl 2 rfl) ?_
          refine lv_land hx hb dS_flood_41 ?_
          refine lv_lload hx hb dS_flood_42 (lv_at hl 3 rfl) ?_
          refine lv_ldc2 (v := (-1)) hx hb hown (hT _ hw_129) dS_flood_44 ?_
          refine lv_lxor hx hb dS_flood_47 ?_
          refine lv_land hx hb dS_flood_48 ?_
          refine lv_lstore (lv' := [(11, .long (((st (bw_lo o)) &&& al) &&& (f ^^^ (-1)))), (0, .ref h), (1, .long fi), (3, .long al), (5, .long f), (7, .long o), (9, .int (nI (bw_lo o))), (10, .int (nI t))]) hx hb dS_flood_49 hl (by decide) rfl (fun ls hl => ?_)
          refine lv_lload hx hb dS_flood_51 (lv_at hl 4 rfl) ?_
          refine lv_lload hx hb dS_flood_53 (lv_at hl 0 rfl) ?_
          refine lv_lor hx hb dS_flood_55 ?_
          refine lv_lstore (lv' := [(5, .long (f ||| (((st (bw_lo o)) &&& al) &&& (f ^^^ (-1))))), (11, .long (((st (bw_lo o)) &&& al) &&& (f ^^^ (-1)))), (0, .ref h), (1, .long fi), (3, .long al), (7, .long o), (9, .int (nI (bw_lo o))), (10, .int (nI t))]) hx hb dS_flood_56 hl (by decide) rfl (fun ls hl => ?_)
          refine lv_lload hx hb dS_flood_58 (lv_at hl 5 rfl) ?_
          refine lv_iload hx hb dS_flood_60 (lv_at hl 6 rfl) ?_
          refine vp_callSl (bw_C (va_runSN (As := [.int (nI (bw_lo o))]) (rest := [.long o]) ⟨hx, hb, hml, hown, hT⟩ (c_bit l (bw_lo o)) ⟨va_cnB 1 hT (bw_gi gn_B_bit) rfl rfl rfl hN.1 (hT _ hw_18) (by decide +kernel) ⟨Nat.le_of_ble_eq_true rfl, Nat.le_of_ble_eq_true rfl⟩, hT _ hw_97, trivial⟩ preEq rfl rfl hl.1 rfl (lv_room (Nat.le_of_ble_eq_true rfl)) dS_flood_62 ⟨Nat.le_of_ble_eq_true rfl, Nat.le_of_ble_eq_true rfl⟩)) (fun r_4 hr_4 => ?_)
          rw [hr_4]; clear hr_4
          refine lv_ldc2 (v := (-1)) hx hb hown (hT _ hw_129) dS_flood_65 ?_
          refine lv_lxor hx hb dS_flood_68 ?_
          refine lv_land hx hb dS_flood_69 ?_
          refine lv_lload hx hb dS_flood_70 (lv_at hl 1 rfl) ?_
          refine lv_lor hx hb dS_flood_72 ?_
          refine lv_lstore (lv' := [(7, .long ((o &&& ((bw_b (bw_lo o)) ^^^ (-1))) ||| (((st (bw_lo o)) &&& al) &&& (f ^^^ (-1))))), (5, .long (f ||| (((st (bw_lo o)) &&& al) &&& (f ^^^ (-1))))), (11, .long (((st (bw_lo o)) &&& al) &&& (f ^^^ (-1)))), (0, .ref h), (1, .long fi), (3, .long al), (9, .int (nI (bw_lo o))), (10, .int (nI t))]) hx hb dS_flood_73 hl (by decide) rfl (fun ls hl => ?_)
          refine lv_lload hx hb dS_flood_75 (lv_at hl 0 rfl) ?_
          refine vp_callSi (bw_C (va_runSN (As := [.long ((o &&& ((bw_b (bw_lo o)) ^^^ (-1))) ||| (((st (bw_lo o)) &&& al) &&& (f ^^^ (-1))))]) (rest := []) ⟨hx, hb, hml, hown, hT⟩ (c_lowest l ((o &&& ((bw_b (bw_lo o)) ^^^ (-1))) ||| (((st (bw_lo o)) &&& al) &&& (f ^^^ (-1))))) ⟨va_cnB 1 hT (bw_gi gn_B_lowest) rfl rfl rfl hN.2.1 (hT _ hw_18) (by decide +kernel) ⟨Nat.le_of_ble_eq_true rfl, Nat.le_of_ble_eq_true rfl⟩, hT _ hw_157, trivial⟩ preEq rfl rfl hl.1 rfl (lv_room (Nat.le_of_ble_eq_true rfl)) dS_flood_77 ⟨Nat.le_of_ble_eq_true rfl, Nat.le_of_ble_eq_true rfl⟩)) (fun r_5 hr_5 => ?_)
          rw [hr_5]; clear hr_5
          refine lv_istore (lv' := [(9, .int (nI (bw_lo ((o &&& ((bw_b (bw_lo o)) ^^^ (-1))) ||| (((st (bw_lo o)) &&& al) &&& (f ^^^ (-1))))))), (7, .long ((o &&& ((bw_b (bw_lo o)) ^^^ (-1))) ||| (((st (bw_lo o)) &&& al) &&& (f ^^^ (-1))))), (5, .long (f ||| (((st (bw_lo o)) &&& al) &&& (f ^^^ (-1))))), (11, .long (((st (bw_lo o)) &&& al) &&& (f ^^^ (-1)))), (0, .ref h), (1, .long fi), (3, .long al), (10, .int (nI t))]) hx hb dS_flood_80 hl (by decide) rfl (fun ls hl => ?_)
          refine lv_iinc (v := nI (t + 1)) (lv' := [(10, .int (nI (t + 1))), (9, .int (nI (bw_lo ((o &&& ((bw_b (bw_lo o)) ^^^ (-1))) ||| (((st (bw_lo o)) &&& al) &&& (f ^^^ (-1))))))), (7, .long ((o &&& ((bw_b (bw_lo o)) ^^^ (-1))) ||| (((st (bw_lo o)) &&& al) &&& (f ^^^ (-1))))), (5, .long (f ||| (((st (bw_lo o)) &&& al) &&& (f ^^^ (-1))))), (11, .long (((st (bw_lo o)) &&& al) &&& (f ^^^ (-1)))), (0, .ref h), (1, .long fi), (3, .long al)]) hx hb dS_flood_82 hl (k := 7) rfl (nI_1 _) (by decide) rfl (fun ls hl => ?_)
          refine lv_goto (tgt := 19) hx hb dS_flood_85 (by decide) ?_
          exact ih_19 (t + 1) (f ||| (((st (bw_lo o)) &&& al) &&& (f ^^^ (-1)))) ((o &&& ((bw_b (bw_lo o)) ^^^ (-1))) ||| (((st (bw_lo o)) &&& al) &&& (f ^^^ (-1)))) (by omega) (by omega) (by rw [← hR, show 40 - t = (40 - (t + 1)) + 1 by omega, bw_fl_s (by omega)]) ls (lv_sub hl [5, 6, 7, 3, 2, 1, 0] rfl)
  exact loop_19 41 0 (fi &&& al) (fi &&& al) (by omega) (by omega) (rfl) ls (lv_sub hl [4, 5, 6, 3, 2, 1, 0] rfl)
