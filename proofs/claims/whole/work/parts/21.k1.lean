set_option maxHeartbeats 4000000 in
set_option maxRecDepth 100000 in
theorem c_bit (l : Launch) (k : Nat) : Met l yB_bit wsB_bit ({ frames := 0, cells := 0, slots := 0, locals := 0 } : Room) (fun v _ => v = ([.int (nI k)] : List Value).toArray) (vp_Sl (fun r => r = bw_b k)) 0 0 (fun _ => False) := by
  refine Met.ofW (cc := cB_bit) (maxL := 1) (ret := (some .long)) (by decide) rfl ?_
  intro p e s m args below meth c s₁ B hml hv
  obtain rfl := hv
  have hx := B.exec
  have hb := B.bytes
  have hr := B.returns
  have hts := atoms_spec (ws := wsB_bit) B.pre
  have hT : ∀ w ∈ bwB, w.before _ s = true := fun w h => hts w (List.mem_cons_of_mem _ h)
  have hown : s.vm.findClass RB = some m.cls := findClass_of_methodNamed B.named
  have hlocks := B.notSynchronized
  have hl := lv_entry ([.int (nI k)]) (n := 1) (Nat.le_of_ble_eq_true rfl)
  rw [lg_entry_eq]
  generalize (lg_sl ([.int (nI k)]) ++ List.replicate (1 - (lg_sl ([.int (nI k)])).length) Slot.unset).toArray = ls at hl ⊢
  have hl : lv_has ls 1 [(0, .int (nI k))] := hl
  refine lv_lconst (v := 1) hx hb dB_bit_0 (by decide) ?_
  refine lv_iload_n hx hb dB_bit_1 rfl (lv_at hl 0 rfl) ?_
  refine lv_lshl hx hb dB_bit_2 rfl ?_
  exact W.lret (v := 1 <<< ((nI k).toInt64 &&& 63)) hx hb hr (fun t ht hW => ⟨_, rfl, rfl, ht⟩) (fun q hq => nomatch hq) dB_bit_3
set_option maxHeartbeats 4000000 in
set_option maxRecDepth 100000 in
theorem c_isB1 (l : Launch) (k : Nat) (hk : k < 40) : Met l yB_isBlock wsB_isBlock ({ frames := 0, cells := 0, slots := 0, locals := 0 } : Room) (fun v _ => v = ([.int (nI k)] : List Value).toArray) (vp_Si (fun r => r = 1)) 0 0 (fun _ => False) := by
  refine Met.ofW (cc := cB_isBlock) (maxL := 1) (ret := (some .boolean)) (by decide) rfl ?_
  intro p e s m args below meth c s₁ B hml hv
  obtain rfl := hv
  have hx := B.exec
  have hb := B.bytes
  have hr := B.returns
  have hts := atoms_spec (ws := wsB_isBlock) B.pre
  have hT : ∀ w ∈ bwB, w.before _ s = true := fun w h => hts w (List.mem_cons_of_mem _ h)
  have hown : s.vm.findClass RB = some m.cls := findClass_of_methodNamed B.named
  have hlocks := B.notSynchronized
  have hl := lv_entry ([.int (nI k)]) (n := 1) (Nat.le_of_ble_eq_true rfl)
  rw [lg_entry_eq]
  generalize (lg_sl ([.int (nI k)]) ++ List.replicate (1 - (lg_sl ([.int (nI k)])).length) Slot.unset).toArray = ls at hl ⊢
  have hl : lv_has ls 1 [(0, .int (nI k))] := hl
  refine lv_iload_n hx hb dB_isBlock_0 rfl (lv_at hl 0 rfl) ?_
  refine lv_if_lt (tgt := 14) hx hb dB_isBlock_1 (by decide) (fun c_1 => ?_) (fun c_1 => ?_)
  · skip
    exact absurd c_1 (nI_pos (by omega))
  · skip
    refine lv_iload_n hx hb dB_isBlock_4 rfl (lv_at hl 0 rfl) ?_
    refine lv_bipush (v := nI 40) hx hb dB_isBlock_5 (by decide) ?_
    refine lv_icmp_ge (tgt := 14) hx hb dB_isBlock_7 (by decide) (fun c_2 => ?_) (fun c_2 => ?_)
    · skip
      have c_2 : 40 ≤ k := (nI_leI (a := 40) (b := k) (by omega) (by omega)).mp c_2
      exact absurd c_2 (by omega)
    · skip
      have c_2 : ¬ 40 ≤ k := fun z => c_2 ((nI_leI (a := 40) (b := k) (by omega) (by omega)).mpr z)
      refine lv_iconst (v := 1) hx hb dB_isBlock_10 (by decide) ?_
      refine lv_goto (tgt := 15) hx hb dB_isBlock_11 (by decide) ?_
      exact W.zret (v := 1) hx hb hr rfl (fun t ht hW => ⟨_, rfl, rfl, ht⟩) (fun q hq => nomatch hq) dB_isBlock_15
set_option maxHeartbeats 4000000 in
set_option maxRecDepth 100000 in
theorem c_isB0 (l : Launch) (b : Int32) (hb9 : ∀ k, k < 40 → ¬ b = nI k) : Met l yB_isBlock wsB_isBlock ({ frames := 0, cells := 0, slots := 0, locals := 0 } : Room) (fun v _ => v = ([.int b] : List Value).toArray) (vp_Si (fun r => r = 0)) 0 0 (fun _ => False) := by
  refine Met.ofW (cc := cB_isBlock) (maxL := 1) (ret := (some .boolean)) (by decide) rfl ?_
  intro p e s m args below meth c s₁ B hml hv
  obtain rfl := hv
  have hx := B.exec
  have hb := B.bytes
  have hr := B.returns
  have hts := atoms_spec (ws := wsB_isBlock) B.pre
  have hT : ∀ w ∈ bwB, w.before _ s = true := fun w h => hts w (List.mem_cons_of_mem _ h)
  have hown : s.vm.findClass RB = some m.cls := findClass_of_methodNamed B.named
  have hlocks := B.notSynchronized
  have hl := lv_entry ([.int b]) (n := 1) (Nat.le_of_ble_eq_true rfl)
  rw [lg_entry_eq]
  generalize (lg_sl ([.int b]) ++ List.replicate (1 - (lg_sl ([.int b])).length) Slot.unset).toArray = ls at hl ⊢
  have hl : lv_has ls 1 [(0, .int b)] := hl
  refine lv_iload_n hx hb dB_isBlock_0 rfl (lv_at hl 0 rfl) ?_
  refine lv_if_lt (tgt := 14) hx hb dB_isBlock_1 (by decide) (fun c_1 => ?_) (fun c_1 => ?_)
  · skip
    refine lv_iconst (v := 0) hx hb dB_isBlock_14 (by decide) ?_
    exact W.zret (v := 0) hx hb hr rfl (fun t ht hW => ⟨_, rfl, rfl, ht⟩) (fun q hq => nomatch hq) dB_isBlock_15
  · skip
    refine lv_iload_n hx hb dB_isBlock_4 rfl (lv_at hl 0 rfl) ?_
    refine lv_bipush (v := nI 40) hx hb dB_isBlock_5 (by decide) ?_
    refine lv_icmp_ge (tgt := 14) hx hb dB_isBlock_7 (by decide) (fun c_2 => ?_) (fun c_2 => ?_)
    · skip
      refine lv_iconst (v := 0) hx hb dB_isBlock_14 (by decide) ?_
      exact W.zret (v := 0) hx hb hr rfl (fun t ht hW => ⟨_, rfl, rfl, ht⟩) (fun q hq => nomatch hq) dB_isBlock_15
    · skip
      rcases pk_ix b (n := 40) (by decide) with z | z | ⟨j, z1, z2⟩
      · exact absurd z c_1
      · exact absurd z c_2
      · exact absurd z2 (hb9 j z1)
set_option maxHeartbeats 4000000 in
set_option maxRecDepth 100000 in
theorem c_has (l : Launch) (x : Int64) (k : Nat) (hk : k < 64) : Met l yB_has wsB_has ({ frames := 1, cells := 0, slots := 0, locals := 20 } : Room) (fun v _ => v = ([.long x, .int (nI k)] : List Value).toArray) (vp_Si (fun r => r = bw_i (bw_m x k))) 0 0 (fun _ => False) := by
  refine Met.ofW (cc := cB_has) (maxL := 3) (ret := (some .boolean)) (by decide) rfl ?_
  intro p e s m args below meth c s₁ B hml hv
  obtain rfl := hv
  have hx := B.exec
  have hb := B.bytes
  have hr := B.returns
  have hts := atoms_spec (ws := wsB_has) B.pre
  have hT : ∀ w ∈ bwB, w.before _ s = true := fun w h => hts w (List.mem_cons_of_mem _ h)
  have hown : s.vm.findClass RB = some m.cls := findClass_of_methodNamed B.named
  have hlocks := B.notSynchronized
  have hl := lv_entry ([.long x, .int (nI k)]) (n := 3) (Nat.le_of_ble_eq_true rfl)
  rw [lg_entry_eq]
  generalize (lg_sl ([.long x, .int (nI k)]) ++ List.replicate (3 - (lg_sl ([.long x, .int (nI k)])).length) Slot.unset).toArray = ls at hl ⊢
  have hl : lv_has ls 3 [(0, .long x), (2, .int (nI k))] := hl
  refine lv_lload_n hx hb dB_has_0 rfl (lv_at hl 0 rfl) ?_
  refine lv_iload_n hx hb dB_has_1 rfl (lv_at hl 1 rfl) ?_
  refine vp_callSl (W.runS (As := [.int (nI k)]) (rest := [.long x]) ⟨hx, hb, hml, hown, hT⟩ (c_bit l k) (cwS 1 hT g_B_49 rfl rfl rfl (by decide +kernel) ⟨Nat.le_of_ble_eq_true rfl, Nat.le_of_ble_eq_true rfl⟩) preEq rfl rfl hl.1 rfl (lv_room (Nat.le_of_ble_eq_true rfl)) dB_has_2 ⟨Nat.le_of_ble_eq_true rfl, Nat.le_of_ble_eq_true rfl⟩) (fun r_1 hr_1 => ?_)
  subst hr_1
  refine lv_land hx hb dB_has_5 ?_
  refine lv_lconst (v := 0) hx hb dB_has_6 (by decide) ?_
  refine W.lcmp hx hb dB_has_7 ?_
  refine lv_if_eq (tgt := 15) hx hb dB_has_8 (by decide) (fun c_2 => ?_) (fun c_2 => ?_)
  · skip
    have c_2 := bw_cmp0.mp c_2
    refine lv_iconst (v := 0) hx hb dB_has_15 (by decide) ?_
    exact W.zret (v := 0) hx hb hr rfl (fun t ht hW => ⟨_, rfl, (by first | exact (bw_iF ((bw_has hk).mp c_2)).symm | exact (bw_iT (bw_hasT hk c_2)).symm), ht⟩) (fun q hq => nomatch hq) dB_has_16
  · skip
    have c_2 := fun z => c_2 (bw_cmp0.mpr z)
    refine lv_iconst (v := 1) hx hb dB_has_11 (by decide) ?_
    refine lv_goto (tgt := 16) hx hb dB_has_12 (by decide) ?_
    exact W.zret (v := 1) hx hb hr rfl (fun t ht hW => ⟨_, rfl, (by first | exact (bw_iF ((bw_has hk).mp c_2)).symm | exact (bw_iT (bw_hasT hk c_2)).symm), ht⟩) (fun q hq => nomatch hq) dB_has_16
