set_option maxHeartbeats 4000000 in
set_option maxRecDepth 100000 in
theorem m_bit (l : Launch) (k : Nat) : Met l yM_bit wsM_bit ({ frames := 0, cells := 0, slots := 0, locals := 0 } : Room) (fun v _ => v = ([.int (nI k)] : List Value).toArray) (vp_Sl (fun r => r = bw_b k)) 0 0 (fun _ => False) := by
  refine Met.ofW (cc := cM_bit) (maxL := 1) (ret := (some .long)) (by decide) rfl ?_
  intro p e s m args below meth c s₁ B hml hv
  obtain rfl := hv
  have hx := B.exec
  have hb := B.bytes
  have hr := B.returns
  have hts := atoms_spec (ws := wsM_bit) B.pre
  have hT : ∀ w ∈ bwB, w.before _ s = true := fun w h => hts w (List.mem_cons_of_mem _ h)
  have hown : s.vm.findClass RM = some m.cls := findClass_of_methodNamed B.named
  have hlocks := B.notSynchronized
  have hl := lv_entry ([.int (nI k)]) (n := 1) (Nat.le_of_ble_eq_true rfl)
  rw [lg_entry_eq]
  generalize (lg_sl ([.int (nI k)]) ++ List.replicate (1 - (lg_sl ([.int (nI k)])).length) Slot.unset).toArray = ls at hl ⊢
  have hl : lv_has ls 1 [(0, .int (nI k))] := hl
  refine lv_lconst (v := 1) hx hb dM_bit_0 (by decide) ?_
  refine lv_iload_n hx hb dM_bit_1 rfl (lv_at hl 0 rfl) ?_
  refine lv_lshl hx hb dM_bit_2 rfl ?_
  exact W.lret (v := 1 <<< ((nI k).toInt64 &&& 63)) hx hb hr (fun t9 ht9 hW9 => ⟨_, rfl, rfl, ht9⟩) (fun q hq => nomatch hq) dM_bit_3
set_option maxHeartbeats 4000000 in
set_option maxRecDepth 100000 in
theorem m_isB1 (l : Launch) (k : Nat) (hk : k < 40) : Met l yM_isBlock wsM_isBlock ({ frames := 0, cells := 0, slots := 0, locals := 0 } : Room) (fun v _ => v = ([.int (nI k)] : List Value).toArray) (vp_Si (fun r => r = 1)) 0 0 (fun _ => False) := by
  refine Met.ofW (cc := cM_isBlock) (maxL := 1) (ret := (some .boolean)) (by decide) rfl ?_
  intro p e s m args below meth c s₁ B hml hv
  obtain rfl := hv
  have hx := B.exec
  have hb := B.bytes
  have hr := B.returns
  have hts := atoms_spec (ws := wsM_isBlock) B.pre
  have hT : ∀ w ∈ bwB, w.before _ s = true := fun w h => hts w (List.mem_cons_of_mem _ h)
  have hown : s.vm.findClass RM = some m.cls := findClass_of_methodNamed B.named
  have hlocks := B.notSynchronized
  have hl := lv_entry ([.int (nI k)]) (n := 1) (Nat.le_of_ble_eq_true rfl)
  rw [lg_entry_eq]
  generalize (lg_sl ([.int (nI k)]) ++ List.replicate (1 - (lg_sl ([.int (nI k)])).length) Slot.unset).toArray = ls at hl ⊢
  have hl : lv_has ls 1 [(0, .int (nI k))] := hl
  refine lv_iload_n hx hb dM_isBlock_0 rfl (lv_at hl 0 rfl) ?_
  refine lv_if_lt (tgt := 14) hx hb dM_isBlock_1 (by decide) (fun c_1 => ?_) (fun c_1 => ?_)
  · skip
    exact absurd c_1 (nI_pos (by omega))
  · skip
    refine lv_iload_n hx hb dM_isBlock_4 rfl (lv_at hl 0 rfl) ?_
    refine lv_bipush (v := nI 40) hx hb dM_isBlock_5 (by decide) ?_
    refine lv_icmp_ge (tgt := 14) hx hb dM_isBlock_7 (by decide) (fun c_2 => ?_) (fun c_2 => ?_)
    · skip
      have c_2 : 40 ≤ k := (nI_leI (a := 40) (b := k) (by omega) (by omega)).mp c_2
      exact absurd c_2 (by omega)
    · skip
      have c_2 : ¬ 40 ≤ k := fun z => c_2 ((nI_leI (a := 40) (b := k) (by omega) (by omega)).mpr z)
      refine lv_iconst (v := 1) hx hb dM_isBlock_10 (by decide) ?_
      refine lv_goto (tgt := 15) hx hb dM_isBlock_11 (by decide) ?_
      exact W.zret (v := 1) hx hb hr rfl (fun t9 ht9 hW9 => ⟨_, rfl, rfl, ht9⟩) (fun q hq => nomatch hq) dM_isBlock_15
set_option maxHeartbeats 4000000 in
set_option maxRecDepth 100000 in
theorem m_isB0 (l : Launch) (b : Int32) (hb9 : ∀ k, k < 40 → ¬ b = nI k) : Met l yM_isBlock wsM_isBlock ({ frames := 0, cells := 0, slots := 0, locals := 0 } : Room) (fun v _ => v = ([.int b] : List Value).toArray) (vp_Si (fun r => r = 0)) 0 0 (fun _ => False) := by
  refine Met.ofW (cc := cM_isBlock) (maxL := 1) (ret := (some .boolean)) (by decide) rfl ?_
  intro p e s m args below meth c s₁ B hml hv
  obtain rfl := hv
  have hx := B.exec
  have hb := B.bytes
  have hr := B.returns
  have hts := atoms_spec (ws := wsM_isBlock) B.pre
  have hT : ∀ w ∈ bwB, w.before _ s = true := fun w h => hts w (List.mem_cons_of_mem _ h)
  have hown : s.vm.findClass RM = some m.cls := findClass_of_methodNamed B.named
  have hlocks := B.notSynchronized
  have hl := lv_entry ([.int b]) (n := 1) (Nat.le_of_ble_eq_true rfl)
  rw [lg_entry_eq]
  generalize (lg_sl ([.int b]) ++ List.replicate (1 - (lg_sl ([.int b])).length) Slot.unset).toArray = ls at hl ⊢
  have hl : lv_has ls 1 [(0, .int b)] := hl
  refine lv_iload_n hx hb dM_isBlock_0 rfl (lv_at hl 0 rfl) ?_
  refine lv_if_lt (tgt := 14) hx hb dM_isBlock_1 (by decide) (fun c_1 => ?_) (fun c_1 => ?_)
  · skip
    refine lv_iconst (v := 0) hx hb dM_isBlock_14 (by decide) ?_
    exact W.zret (v := 0) hx hb hr rfl (fun t9 ht9 hW9 => ⟨_, rfl, rfl, ht9⟩) (fun q hq => nomatch hq) dM_isBlock_15
  · skip
    refine lv_iload_n hx hb dM_isBlock_4 rfl (lv_at hl 0 rfl) ?_
    refine lv_bipush (v := nI 40) hx hb dM_isBlock_5 (by decide) ?_
    refine lv_icmp_ge (tgt := 14) hx hb dM_isBlock_7 (by decide) (fun c_2 => ?_) (fun c_2 => ?_)
    · skip
      refine lv_iconst (v := 0) hx hb dM_isBlock_14 (by decide) ?_
      exact W.zret (v := 0) hx hb hr rfl (fun t9 ht9 hW9 => ⟨_, rfl, rfl, ht9⟩) (fun q hq => nomatch hq) dM_isBlock_15
    · skip
      rcases pk_ix b (n := 40) (by decide) with z | z | ⟨j, z1, z2⟩
      · exact absurd z c_1
      · exact absurd z c_2
      · exact absurd z2 (hb9 j z1)
set_option maxHeartbeats 4000000 in
set_option maxRecDepth 100000 in
theorem m_is (l : Launch) (x : Int64) (k : Nat) (hk : k < 64) : Met l yM_is wsM_is ({ frames := 0, cells := 0, slots := 0, locals := 0 } : Room) (fun v _ => v = ([.long x, .int (nI k)] : List Value).toArray) (vp_Si (fun r => r = bw_i (bw_m x k))) 0 0 (fun _ => False) := by
  refine Met.ofW (cc := cM_is) (maxL := 3) (ret := (some .boolean)) (by decide) rfl ?_
  intro p e s m args below meth c s₁ B hml hv
  obtain rfl := hv
  have hx := B.exec
  have hb := B.bytes
  have hr := B.returns
  have hts := atoms_spec (ws := wsM_is) B.pre
  have hT : ∀ w ∈ bwB, w.before _ s = true := fun w h => hts w (List.mem_cons_of_mem _ h)
  have hown : s.vm.findClass RM = some m.cls := findClass_of_methodNamed B.named
  have hlocks := B.notSynchronized
  have hl := lv_entry ([.long x, .int (nI k)]) (n := 3) (Nat.le_of_ble_eq_true rfl)
  rw [lg_entry_eq]
  generalize (lg_sl ([.long x, .int (nI k)]) ++ List.replicate (3 - (lg_sl ([.long x, .int (nI k)])).length) Slot.unset).toArray = ls at hl ⊢
  have hl : lv_has ls 3 [(0, .long x), (2, .int (nI k))] := hl
  refine lv_lload_n hx hb dM_is_0 rfl (lv_at hl 0 rfl) ?_
  refine lv_iload_n hx hb dM_is_1 rfl (lv_at hl 1 rfl) ?_
  refine lv_lshr hx hb dM_is_2 rfl ?_
  refine lv_lconst (v := 1) hx hb dM_is_3 (by decide) ?_
  refine lv_land hx hb dM_is_4 ?_
  refine lv_lconst (v := 1) hx hb dM_is_5 (by decide) ?_
  refine W.lcmp hx hb dM_is_6 ?_
  refine lv_if_ne (tgt := 14) hx hb dM_is_7 (by decide) (fun c_1 => ?_) (fun c_1 => ?_)
  · skip
    have c_1 := fun z => c_1 (bw_cmp0.mpr z)
    refine lv_iconst (v := 0) hx hb dM_is_14 (by decide) ?_
    exact W.zret (v := 0) hx hb hr rfl (fun t9 ht9 hW9 => ⟨_, rfl, (by first | exact (bw_iT (bw_isT hk c_1)).symm | exact (bw_iF (bw_isF hk c_1)).symm), ht9⟩) (fun q hq => nomatch hq) dM_is_15
  · skip
    have c_1 := bw_cmp0.mp c_1
    refine lv_iconst (v := 1) hx hb dM_is_10 (by decide) ?_
    refine lv_goto (tgt := 15) hx hb dM_is_11 (by decide) ?_
    exact W.zret (v := 1) hx hb hr rfl (fun t9 ht9 hW9 => ⟨_, rfl, (by first | exact (bw_iT (bw_isT hk c_1)).symm | exact (bw_iF (bw_isF hk c_1)).symm), ht9⟩) (fun q hq => nomatch hq) dM_is_15
set_option maxHeartbeats 4000000 in
set_option maxRecDepth 100000 in
theorem m_sizeOf (l : Launch) (x : Int64) : Met l yM_sizeOf wsM_sizeOf ({ frames := 1, cells := 0, slots := 0, locals := 22 } : Room) (fun v _ => v = ([.long x] : List Value).toArray) (vp_Si (fun r => r = nI (bw_N (bw_m x) 40))) 0 0 (fun _ => False) := by
  refine Met.ofW (cc := cM_sizeOf) (maxL := 4) (ret := (some .int)) (by decide) rfl ?_
  intro p e s m args below meth c s₁ B hml hv
  obtain rfl := hv
  have hx := B.exec
  have hb := B.bytes
  have hr := B.returns
  have hts := atoms_spec (ws := wsM_sizeOf) B.pre
  have hT : ∀ w ∈ bwB, w.before _ s = true := fun w h => hts w (List.mem_cons_of_mem _ h)
  have hown : s.vm.findClass RM = some m.cls := findClass_of_methodNamed B.named
  have hlocks := B.notSynchronized
  have hl := lv_entry ([.long x]) (n := 4) (Nat.le_of_ble_eq_true rfl)
  rw [lg_entry_eq]
  generalize (lg_sl ([.long x]) ++ List.replicate (4 - (lg_sl ([.long x])).length) Slot.unset).toArray = ls at hl ⊢
  have hl : lv_has ls 4 [(0, .long x)] := hl
  refine lv_iconst (v := nI 0) hx hb dM_sizeOf_0 (by decide) ?_
  refine lv_istore_n (lv' := [(2, .int (nI 0)), (0, .long x)]) hx hb dM_sizeOf_1 rfl hl (by decide) rfl (fun ls hl => ?_)
  refine lv_iconst (v := nI 0) hx hb dM_sizeOf_2 (by decide) ?_
  refine lv_istore_n (lv' := [(3, .int (nI 0)), (2, .int (nI 0)), (0, .long x)]) hx hb dM_sizeOf_3 rfl hl (by decide) rfl (fun ls hl => ?_)
  have loop_4 : ∀ (n_4 : Nat) (i : Nat) (n : Nat), (i ≤ 40) → (40 < i + n_4) → (n = bw_N (bw_m x) i) → ∀ (ls : Array Slot), lv_has ls 4 [(0, .long x), (2, .int (nI n)), (3, .int (nI i))] → W p l e (headSpec wsM_sizeOf ({ frames := 1, cells := 0, slots := 0, locals := 22 } : Room)).room s m ([.long x] : List Value).toArray below meth c s.heap [] 0 0 (MQ below (vp_Si (fun r => r = nI (bw_N (bw_m x) 40))) ([.long x] : List Value).toArray s 0 0 (fun _ => False)) (F0 m 4 ls []) := by
    intro n_4
    induction n_4 with
    | zero => intro i n hii hfi en; exfalso; omega
    | succ n_4 ih_4 =>
      intro i n hii hfi en ls hl
      refine lv_iload_n hx hb dM_sizeOf_4 rfl (lv_at hl 2 rfl) ?_
      refine lv_bipush (v := nI 40) hx hb dM_sizeOf_5 (by decide) ?_
      refine lv_icmp_ge (tgt := 32) hx hb dM_sizeOf_7 (by decide) (fun c_1 => ?_) (fun c_1 => ?_)
      · skip
        have c_1 : 40 ≤ i := (nI_leI (a := 40) (b := i) (by omega) (by omega)).mp c_1
        refine lv_iload_n hx hb dM_sizeOf_32 rfl (lv_at hl 1 rfl) ?_
        exact W.iret (v := nI n) hx hb hr (fun t9 ht9 hW9 => ⟨_, rfl, (by rw [en, show i = 40 by omega]), ht9⟩) (fun q hq => nomatch hq) dM_sizeOf_33
      · skip
        have c_1 : ¬ 40 ≤ i := fun z => c_1 ((nI_leI (a := 40) (b := i) (by omega) (by omega)).mpr z)
        refine lv_iload_n hx hb dM_sizeOf_10 rfl (lv_at hl 1 rfl) ?_
        refine lv_lload_n hx hb dM_sizeOf_11 rfl (lv_at hl 0 rfl) ?_
        refine lv_iload_n hx hb dM_sizeOf_12 rfl (lv_at hl 2 rfl) ?_
        refine vp_callSi (W.runS (As := [.long x, .int (nI i)]) (rest := [.int (nI n)]) ⟨hx, hb, hml, hown, hT⟩ (m_is l x i (by omega)) (cwS 2 hT g_M_36 rfl rfl rfl (by decide +kernel) ⟨Nat.le_of_ble_eq_true rfl, Nat.le_of_ble_eq_true rfl⟩) preEq rfl rfl hl.1 rfl (lv_room (Nat.le_of_ble_eq_true rfl)) dM_sizeOf_13 ⟨Nat.le_of_ble_eq_true rfl, Nat.le_of_ble_eq_true rfl⟩) (fun r_2 hr_2 => ?_)
        rw [hr_2]; clear hr_2
        refine lv_if_eq (tgt := 23) hx hb dM_sizeOf_16 (by decide) (fun c_3 => ?_) (fun c_3 => ?_)
        · skip
          have c_3 := bw_i0.mp c_3
          refine lv_iconst (v := 0) hx hb dM_sizeOf_23 (by decide) ?_
          refine lv_iadd hx hb dM_sizeOf_24 ?_
          rw [show nI n + 0 = nI n from Int32.add_zero _]
          refine lv_istore_n (lv' := [(2, .int (nI n)), (0, .long x), (3, .int (nI i))]) hx hb dM_sizeOf_25 rfl hl (by decide) rfl (fun ls hl => ?_)
          refine lv_iinc (v := nI (i + 1)) (lv' := [(3, .int (nI (i + 1))), (2, .int (nI n)), (0, .long x)]) hx hb dM_sizeOf_26 hl (k := 2) rfl (nI_1 _) (by decide) rfl (fun ls hl => ?_)
          refine lv_goto (tgt := 4) hx hb dM_sizeOf_29 (by decide) ?_
          exact ih_4 (i + 1) n (by omega) (by omega) (by first | (rw [bw_N_t (c := bw_m x) (n := i) c_3, ← en]; done) | (rw [bw_N_f (c := bw_m x) (n := i) c_3, ← en]; done)) ls (lv_sub hl [2, 1, 0] rfl)
        · skip
          have c_3 := bw_in0 c_3
          refine lv_iconst (v := 1) hx hb dM_sizeOf_19 (by decide) ?_
          refine lv_goto (tgt := 24) hx hb dM_sizeOf_20 (by decide) ?_
          refine lv_iadd hx hb dM_sizeOf_24 ?_
          rw [nI_1 n]
          refine lv_istore_n (lv' := [(2, .int (nI (n + 1))), (0, .long x), (3, .int (nI i))]) hx hb dM_sizeOf_25 rfl hl (by decide) rfl (fun ls hl => ?_)
          refine lv_iinc (v := nI (i + 1)) (lv' := [(3, .int (nI (i + 1))), (2, .int (nI (n + 1))), (0, .long x)]) hx hb dM_sizeOf_26 hl (k := 2) rfl (nI_1 _) (by decide) rfl (fun ls hl => ?_)
          refine lv_goto (tgt := 4) hx hb dM_sizeOf_29 (by decide) ?_
          exact ih_4 (i + 1) (n + 1) (by omega) (by omega) (by first | (rw [bw_N_t (c := bw_m x) (n := i) c_3, ← en]; done) | (rw [bw_N_f (c := bw_m x) (n := i) c_3, ← en]; done)) ls (lv_sub hl [2, 1, 0] rfl)
  exact loop_4 41 0 0 (by omega) (by omega) (rfl) ls (lv_sub hl [2, 1, 0] rfl)
set_option maxHeartbeats 4000000 in
set_option maxRecDepth 100000 in
theorem m_nearest (l : Launch) (dC : Nat → ClassId) (dI : Nat → Nat → Nat) (a : Nat) (cL : ClassId) (ov : Nat → Int64) (k : Nat) (hk : k < 40) : Met l yM_nearest wsM_nearest ({ frames := 1, cells := 0, slots := 0, locals := 22 } : Room) (bw_Ro (dC, dI) [(cL, .long)] [(a, .inl (cL, 40, .inr (.inl ov)))] [.ref a, .int (nI k)]) (vp_Si (fun r => bw_first (bw_nP ov k) r)) 0 0 (fun _ => False) := by
  refine Met.ofW (cc := cM_nearest) (maxL := 5) (ret := (some .int)) (by decide) rfl ?_
  intro p e s m args below meth c s₁ B hml hv
  obtain ⟨rfl, hP, hK, hN⟩ := hv
  have hx := B.exec
  have hb := B.bytes
  have hr := B.returns
  have hts := atoms_spec (ws := wsM_nearest) B.pre
  have hT : ∀ w ∈ bwB, w.before _ s = true := fun w h => hts w (List.mem_cons_of_mem _ h)
  have hown : s.vm.findClass RM = some m.cls := findClass_of_methodNamed B.named
  have hlocks := B.notSynchronized
  have hl := lv_entry ([.ref a, .int (nI k)]) (n := 5) (Nat.le_of_ble_eq_true rfl)
  rw [lg_entry_eq]
  generalize (lg_sl ([.ref a, .int (nI k)]) ++ List.replicate (5 - (lg_sl ([.ref a, .int (nI k)])).length) Slot.unset).toArray = ls at hl ⊢
  have hl : lv_has ls 5 [(0, .ref a), (1, .int (nI k))] := hl
  refine lv_aload_n hx hb dM_nearest_0 rfl (lv_at hl 0 rfl) ?_
  refine lv_iload_n hx hb dM_nearest_1 rfl (lv_at hl 1 rfl) ?_
  refine bw_lald hx hb hK hP 0 0 (k := k) rfl rfl (by omega) (by decide) dM_nearest_2 ?_
  refine lv_iload_n hx hb dM_nearest_3 rfl (lv_at hl 1 rfl) ?_
  refine vp_callSl (W.runS (As := [.int (nI k)]) (rest := [.long (ov k)]) ⟨hx, hb, hml, hown, hT⟩ (m_bit l k) (cwS 1 hT g_M_48 rfl rfl rfl (by decide +kernel) ⟨Nat.le_of_ble_eq_true rfl, Nat.le_of_ble_eq_true rfl⟩) preEq rfl rfl hl.1 rfl (lv_room (Nat.le_of_ble_eq_true rfl)) dM_nearest_4 ⟨Nat.le_of_ble_eq_true rfl, Nat.le_of_ble_eq_true rfl⟩) (fun r_1 hr_1 => ?_)
  rw [hr_1]; clear hr_1
  refine lv_ldc2 (v := (-1)) hx hb hown (hT _ hw_409) dM_nearest_7 ?_
  refine lv_lxor hx hb dM_nearest_10 ?_
  refine lv_land hx hb dM_nearest_11 ?_
  refine lv_lstore_n (lv' := [(2, .long ((ov k) &&& ((bw_b k) ^^^ (-1)))), (0, .ref a), (1, .int (nI k))]) hx hb dM_nearest_12 rfl hl (by decide) rfl (fun ls hl => ?_)
  refine lv_iconst (v := nI 0) hx hb dM_nearest_13 (by decide) ?_
  refine lv_istore (lv' := [(4, .int (nI 0)), (2, .long ((ov k) &&& ((bw_b k) ^^^ (-1)))), (0, .ref a), (1, .int (nI k))]) hx hb dM_nearest_14 hl (by decide) rfl (fun ls hl => ?_)
  have loop_16 : ∀ (n_16 : Nat) (i : Nat), (i ≤ 40) → (40 < i + n_16) → (∀ j, j < i → bw_nP ov k j = false) → ∀ (ls : Array Slot), lv_has ls 5 [(0, .ref a), (1, .int (nI k)), (2, .long (ov k &&& (bw_b k ^^^ (-1)))), (4, .int (nI i))] → W p l e (headSpec wsM_nearest ({ frames := 1, cells := 0, slots := 0, locals := 22 } : Room)).room s m ([.ref a, .int (nI k)] : List Value).toArray below meth c s.heap [] 0 0 (MQ below (vp_Si (fun r => bw_first (bw_nP ov k) r)) ([.ref a, .int (nI k)] : List Value).toArray s 0 0 (fun _ => False)) (F0 m 16 ls []) := by
    intro n_16
    induction n_16 with
    | zero => intro i hii hfi hn; exfalso; omega
    | succ n_16 ih_16 =>
      intro i hii hfi hn ls hl
      refine lv_iload hx hb dM_nearest_16 (lv_at hl 3 rfl) ?_
      refine lv_bipush (v := nI 40) hx hb dM_nearest_18 (by decide) ?_
      refine lv_icmp_ge (tgt := 50) hx hb dM_nearest_20 (by decide) (fun c_2 => ?_) (fun c_2 => ?_)
      · skip
        have c_2 : 40 ≤ i := (nI_leI (a := 40) (b := i) (by omega) (by omega)).mp c_2
        refine lv_iconst (v := -1) hx hb dM_nearest_50 (by decide) ?_
        exact W.iret (v := -1) hx hb hr (fun t9 ht9 hW9 => ⟨_, rfl, (by first | exact bw_first_f (by omega) hn | exact bw_first_t (by omega) (bw_nPT hn c_2) hn), ht9⟩) (fun q hq => nomatch hq) dM_nearest_51
      · skip
        have c_2 : ¬ 40 ≤ i := fun z => c_2 ((nI_leI (a := 40) (b := i) (by omega) (by omega)).mpr z)
        refine lv_lload_n hx hb dM_nearest_23 rfl (lv_at hl 2 rfl) ?_
        refine lv_iload hx hb dM_nearest_24 (lv_at hl 3 rfl) ?_
        refine vp_callSi (W.runS (As := [.long (ov k &&& (bw_b k ^^^ (-1))), .int (nI i)]) (rest := []) ⟨hx, hb, hml, hown, hT⟩ (m_is l (ov k &&& (bw_b k ^^^ (-1))) i (by omega)) (cwS 2 hT g_M_36 rfl rfl rfl (by decide +kernel) ⟨Nat.le_of_ble_eq_true rfl, Nat.le_of_ble_eq_true rfl⟩) preEq rfl rfl hl.1 rfl (lv_room (Nat.le_of_ble_eq_true rfl)) dM_nearest_26 ⟨Nat.le_of_ble_eq_true rfl, Nat.le_of_ble_eq_true rfl⟩) (fun r_3 hr_3 => ?_)
        rw [hr_3]; clear hr_3
        refine lv_if_eq (tgt := 44) hx hb dM_nearest_29 (by decide) (fun c_4 => ?_) (fun c_4 => ?_)
        · skip
          have c_4 := bw_i0.mp c_4
          refine lv_iinc (v := nI (i + 1)) (lv' := [(4, .int (nI (i + 1))), (0, .ref a), (1, .int (nI k)), (2, .long (ov k &&& (bw_b k ^^^ (-1))))]) hx hb dM_nearest_44 hl (k := 3) rfl (nI_1 _) (by decide) rfl (fun ls hl => ?_)
          refine lv_goto (tgt := 16) hx hb dM_nearest_47 (by decide) ?_
          exact ih_16 (i + 1) (by omega) (by omega) (by first | exact lt_s hn (bw_nPF1 c_4) | exact lt_s hn (bw_nPF2 c_4)) ls (lv_sub hl [1, 2, 3, 0] rfl)
        · skip
          have c_4 := bw_in0 c_4
          refine lv_aload_n hx hb dM_nearest_32 rfl (lv_at hl 0 rfl) ?_
          refine lv_iload hx hb dM_nearest_33 (lv_at hl 3 rfl) ?_
          refine bw_lald hx hb hK hP 0 0 (k := i) rfl rfl (by omega) (by decide) dM_nearest_35 ?_
          refine lv_lload_n hx hb dM_nearest_36 rfl (lv_at hl 2 rfl) ?_
          refine W.lcmp hx hb dM_nearest_37 ?_
          refine lv_if_ne (tgt := 44) hx hb dM_nearest_38 (by decide) (fun c_5 => ?_) (fun c_5 => ?_)
          · skip
            have c_5 := fun z => c_5 (bw_cmp0.mpr z)
            refine lv_iinc (v := nI (i + 1)) (lv' := [(4, .int (nI (i + 1))), (0, .ref a), (1, .int (nI k)), (2, .long (ov k &&& (bw_b k ^^^ (-1))))]) hx hb dM_nearest_44 hl (k := 3) rfl (nI_1 _) (by decide) rfl (fun ls hl => ?_)
            refine lv_goto (tgt := 16) hx hb dM_nearest_47 (by decide) ?_
            exact ih_16 (i + 1) (by omega) (by omega) (by first | exact lt_s hn (bw_nPF1 c_5) | exact lt_s hn (bw_nPF2 c_5)) ls (lv_sub hl [1, 2, 3, 0] rfl)
          · skip
            have c_5 := bw_cmp0.mp c_5
            refine lv_iload hx hb dM_nearest_41 (lv_at hl 3 rfl) ?_
            exact W.iret (v := nI i) hx hb hr (fun t9 ht9 hW9 => ⟨_, rfl, (by first | exact bw_first_f (by omega) hn | exact bw_first_t (by omega) (bw_nPT c_4 c_5) hn), ht9⟩) (fun q hq => nomatch hq) dM_nearest_43
  exact loop_16 41 0 (by omega) (by omega) (fun j hj => absurd hj (Nat.not_lt_zero j)) ls (lv_sub hl [2, 3, 1, 0] rfl)
set_option maxHeartbeats 4000000 in
set_option maxRecDepth 100000 in
theorem m_thrown (l : Launch) (dC : Nat → ClassId) (dI : Nat → Nat → Nat) (y m1 m2 s1 v1 h1 d1 e1 : Nat) (cI cL : ClassId) (tw : Int32) (T : Int64) (mn tg : Nat → Int32) (kn : Int32) (ms : Nat → Int64) (re gd en : Int64) (ov be : Nat → Int64) (he : Int64) (rd ed : Nat → Int64) (pl : Int32) : Met l yM_thrown wsM_thrown ({ frames := 0, cells := 0, slots := 0, locals := 0 } : Room) (bw_Ro (dC, dI) [(cI, .int), (cL, .long)] [(y, .inr (3, [.int tw, .long T, .ref m1, .ref m2, .int kn, .ref s1, .long re, .long gd, .long en, .ref v1, .ref h1, .long he, .ref d1, .ref e1, .int pl])), (m1, .inl (cI, 40, .inl mn)), (m2, .inl (cI, 160, .inl tg)), (s1, .inl (cL, 40, .inr (.inl ms))), (v1, .inl (cL, 40, .inr (.inl ov))), (h1, .inl (cL, 40, .inr (.inl be))), (d1, .inl (cL, 40, .inr (.inl rd))), (e1, .inl (cL, 40, .inr (.inl ed)))] [.ref y]) (vp_Si (fun r => r = tw)) 0 0 (fun _ => False) := by
  refine Met.ofW (cc := cM_thrown) (maxL := 1) (ret := (some .int)) (by decide) rfl ?_
  intro p e s m args below meth c s₁ B hml hv
  obtain ⟨rfl, hP, hK, hN⟩ := hv
  have hx := B.exec
  have hb := B.bytes
  have hr := B.returns
  have hts := atoms_spec (ws := wsM_thrown) B.pre
  have hT : ∀ w ∈ bwB, w.before _ s = true := fun w h => hts w (List.mem_cons_of_mem _ h)
  have hown : s.vm.findClass RM = some m.cls := findClass_of_methodNamed B.named
  have hlocks := B.notSynchronized
  have hl := lv_entry ([.ref y]) (n := 1) (Nat.le_of_ble_eq_true rfl)
  rw [lg_entry_eq]
  generalize (lg_sl ([.ref y]) ++ List.replicate (1 - (lg_sl ([.ref y])).length) Slot.unset).toArray = ls at hl ⊢
  have hl : lv_has ls 1 [(0, .ref y)] := hl
  refine lv_aload_n hx hb dM_thrown_0 rfl (lv_at hl 0 rfl) ?_
  refine va_get (D := (dC, dI)) (ci := 3) (v := .int tw) (C := RM) (T := TM) (N := 15) hx hb hT inM hown hK hP 0 rfl rfl 0 (by decide) (hT _ hw_338) (fun _ h9 => h9) rfl dM_thrown_1 ?_
  exact W.iret (v := tw) hx hb hr (fun t9 ht9 hW9 => ⟨_, rfl, rfl, ht9⟩) (fun q hq => nomatch hq) dM_thrown_4
set_option maxHeartbeats 4000000 in
set_option maxRecDepth 100000 in
theorem m_in (l : Launch) (dC : Nat → ClassId) (dI : Nat → Nat → Nat) (y m1 m2 s1 v1 h1 d1 e1 : Nat) (cI cL : ClassId) (tw : Int32) (T : Int64) (mn tg : Nat → Int32) (kn : Int32) (ms : Nat → Int64) (re gd en : Int64) (ov be : Nat → Int64) (he : Int64) (rd ed : Nat → Int64) (pl : Int32) (k : Nat) (hk : k < 40) : Met l yM_in wsM_in ({ frames := 1, cells := 0, slots := 0, locals := 22 } : Room) (bw_Ro (dC, dI) [(cI, .int), (cL, .long)] [(y, .inr (3, [.int tw, .long T, .ref m1, .ref m2, .int kn, .ref s1, .long re, .long gd, .long en, .ref v1, .ref h1, .long he, .ref d1, .ref e1, .int pl])), (m1, .inl (cI, 40, .inl mn)), (m2, .inl (cI, 160, .inl tg)), (s1, .inl (cL, 40, .inr (.inl ms))), (v1, .inl (cL, 40, .inr (.inl ov))), (h1, .inl (cL, 40, .inr (.inl be))), (d1, .inl (cL, 40, .inr (.inl rd))), (e1, .inl (cL, 40, .inr (.inl ed)))] [.ref y, .int (nI k)]) (vp_Si (fun r => r = nI (bw_N (fun h => bw_m (rd h) k) 40))) 0 0 (fun _ => False) := by
  refine Met.ofW (cc := cM_in) (maxL := 4) (ret := (some .int)) (by decide) rfl ?_
  intro p e s m args below meth c s₁ B hml hv
  obtain ⟨rfl, hP, hK, hN⟩ := hv
  have hx := B.exec
  have hb := B.bytes
  have hr := B.returns
  have hts := atoms_spec (ws := wsM_in) B.pre
  have hT : ∀ w ∈ bwB, w.before _ s = true := fun w h => hts w (List.mem_cons_of_mem _ h)
  have hown : s.vm.findClass RM = some m.cls := findClass_of_methodNamed B.named
  have hlocks := B.notSynchronized
  have hl := lv_entry ([.ref y, .int (nI k)]) (n := 4) (Nat.le_of_ble_eq_true rfl)
  rw [lg_entry_eq]
  generalize (lg_sl ([.ref y, .int (nI k)]) ++ List.replicate (4 - (lg_sl ([.ref y, .int (nI k)])).length) Slot.unset).toArray = ls at hl ⊢
  have hl : lv_has ls 4 [(0, .ref y), (1, .int (nI k))] := hl
  refine lv_iconst (v := nI 0) hx hb dM_in_0 (by decide) ?_
  refine lv_istore_n (lv' := [(2, .int (nI 0)), (0, .ref y), (1, .int (nI k))]) hx hb dM_in_1 rfl hl (by decide) rfl (fun ls hl => ?_)
  refine lv_iconst (v := nI 0) hx hb dM_in_2 (by decide) ?_
  refine lv_istore_n (lv' := [(3, .int (nI 0)), (2, .int (nI 0)), (0, .ref y), (1, .int (nI k))]) hx hb dM_in_3 rfl hl (by decide) rfl (fun ls hl => ?_)
  have loop_4 : ∀ (n_4 : Nat) (i : Nat) (n : Nat), (i ≤ 40) → (40 < i + n_4) → (n = bw_N (fun h => bw_m (rd h) k) i) → ∀ (ls : Array Slot), lv_has ls 4 [(0, .ref y), (1, .int (nI k)), (2, .int (nI n)), (3, .int (nI i))] → W p l e (headSpec wsM_in ({ frames := 1, cells := 0, slots := 0, locals := 22 } : Room)).room s m ([.ref y, .int (nI k)] : List Value).toArray below meth c s.heap [] 0 0 (MQ below (vp_Si (fun r => r = nI (bw_N (fun h => bw_m (rd h) k) 40))) ([.ref y, .int (nI k)] : List Value).toArray s 0 0 (fun _ => False)) (F0 m 4 ls []) := by
    intro n_4
    induction n_4 with
    | zero => intro i n hii hfi en9; exfalso; omega
    | succ n_4 ih_4 =>
      intro i n hii hfi en9 ls hl
      refine lv_iload_n hx hb dM_in_4 rfl (lv_at hl 3 rfl) ?_
      refine lv_bipush (v := nI 40) hx hb dM_in_5 (by decide) ?_
      refine lv_icmp_ge (tgt := 37) hx hb dM_in_7 (by decide) (fun c_1 => ?_) (fun c_1 => ?_)
      · skip
        have c_1 : 40 ≤ i := (nI_leI (a := 40) (b := i) (by omega) (by omega)).mp c_1
        refine lv_iload_n hx hb dM_in_37 rfl (lv_at hl 2 rfl) ?_
        exact W.iret (v := nI n) hx hb hr (fun t9 ht9 hW9 => ⟨_, rfl, (by rw [en9, show i = 40 by omega]), ht9⟩) (fun q hq => nomatch hq) dM_in_38
      · skip
        have c_1 : ¬ 40 ≤ i := fun z => c_1 ((nI_leI (a := 40) (b := i) (by omega) (by omega)).mpr z)
        refine lv_iload_n hx hb dM_in_10 rfl (lv_at hl 2 rfl) ?_
        refine lv_aload_n hx hb dM_in_11 rfl (lv_at hl 0 rfl) ?_
        refine va_get (D := (dC, dI)) (ci := 3) (v := .ref d1) (C := RM) (T := TM) (N := 15) hx hb hT inM hown hK hP 0 rfl rfl 12 (by decide) (hT _ hw_350) (fun _ h9 => h9) rfl dM_in_12 ?_
        refine lv_iload_n hx hb dM_in_15 rfl (lv_at hl 3 rfl) ?_
        refine bw_lald hx hb hK hP 6 1 (k := i) rfl rfl (by omega) (by decide) dM_in_16 ?_
        refine lv_iload_n hx hb dM_in_17 rfl (lv_at hl 1 rfl) ?_
        refine vp_callSi (W.runS (As := [.long (rd i), .int (nI k)]) (rest := [.int (nI n)]) ⟨hx, hb, hml, hown, hT⟩ (m_is l (rd i) k (by omega)) (cwS 2 hT g_M_36 rfl rfl rfl (by decide +kernel) ⟨Nat.le_of_ble_eq_true rfl, Nat.le_of_ble_eq_true rfl⟩) preEq rfl rfl hl.1 rfl (lv_room (Nat.le_of_ble_eq_true rfl)) dM_in_18 ⟨Nat.le_of_ble_eq_true rfl, Nat.le_of_ble_eq_true rfl⟩) (fun r_2 hr_2 => ?_)
        rw [hr_2]; clear hr_2
        refine lv_if_eq (tgt := 28) hx hb dM_in_21 (by decide) (fun c_3 => ?_) (fun c_3 => ?_)
        · skip
          have c_3 := bw_i0.mp c_3
          refine lv_iconst (v := 0) hx hb dM_in_28 (by decide) ?_
          refine lv_iadd hx hb dM_in_29 ?_
          rw [show nI n + 0 = nI n from Int32.add_zero _]
          refine lv_istore_n (lv' := [(2, .int (nI n)), (0, .ref y), (1, .int (nI k)), (3, .int (nI i))]) hx hb dM_in_30 rfl hl (by decide) rfl (fun ls hl => ?_)
          refine lv_iinc (v := nI (i + 1)) (lv' := [(3, .int (nI (i + 1))), (2, .int (nI n)), (0, .ref y), (1, .int (nI k))]) hx hb dM_in_31 hl (k := 3) rfl (nI_1 _) (by decide) rfl (fun ls hl => ?_)
          refine lv_goto (tgt := 4) hx hb dM_in_34 (by decide) ?_
          exact ih_4 (i + 1) n (by omega) (by omega) (by first | (rw [bw_N_t (c := fun h => bw_m (rd h) k) (n := i) c_3, ← en9]; done) | (rw [bw_N_f (c := fun h => bw_m (rd h) k) (n := i) c_3, ← en9]; done)) ls (lv_sub hl [2, 3, 1, 0] rfl)
        · skip
          have c_3 := bw_in0 c_3
          refine lv_iconst (v := 1) hx hb dM_in_24 (by decide) ?_
          refine lv_goto (tgt := 29) hx hb dM_in_25 (by decide) ?_
          refine lv_iadd hx hb dM_in_29 ?_
          rw [nI_1 n]
          refine lv_istore_n (lv' := [(2, .int (nI (n + 1))), (0, .ref y), (1, .int (nI k)), (3, .int (nI i))]) hx hb dM_in_30 rfl hl (by decide) rfl (fun ls hl => ?_)
          refine lv_iinc (v := nI (i + 1)) (lv' := [(3, .int (nI (i + 1))), (2, .int (nI (n + 1))), (0, .ref y), (1, .int (nI k))]) hx hb dM_in_31 hl (k := 3) rfl (nI_1 _) (by decide) rfl (fun ls hl => ?_)
          refine lv_goto (tgt := 4) hx hb dM_in_34 (by decide) ?_
          exact ih_4 (i + 1) (n + 1) (by omega) (by omega) (by first | (rw [bw_N_t (c := fun h => bw_m (rd h) k) (n := i) c_3, ← en9]; done) | (rw [bw_N_f (c := fun h => bw_m (rd h) k) (n := i) c_3, ← en9]; done)) ls (lv_sub hl [2, 3, 1, 0] rfl)
  exact loop_4 41 0 0 (by omega) (by omega) (rfl) ls (lv_sub hl [2, 3, 1, 0] rfl)
set_option maxHeartbeats 4000000 in
set_option maxRecDepth 100000 in
theorem m_under (l : Launch) (dC : Nat → ClassId) (dI : Nat → Nat → Nat) (y m1 m2 s1 v1 h1 d1 e1 : Nat) (cI cL : ClassId) (tw : Int32) (T : Int64) (mn tg : Nat → Int32) (kn : Int32) (ms : Nat → Int64) (re gd en : Int64) (ov be : Nat → Int64) (he : Int64) (rd ed : Nat → Int64) (pl : Int32) (k : Nat) (hk : k < 40) : Met l yM_under wsM_under ({ frames := 1, cells := 0, slots := 0, locals := 22 } : Room) (bw_Ro (dC, dI) [(cI, .int), (cL, .long)] [(y, .inr (3, [.int tw, .long T, .ref m1, .ref m2, .int kn, .ref s1, .long re, .long gd, .long en, .ref v1, .ref h1, .long he, .ref d1, .ref e1, .int pl])), (m1, .inl (cI, 40, .inl mn)), (m2, .inl (cI, 160, .inl tg)), (s1, .inl (cL, 40, .inr (.inl ms))), (v1, .inl (cL, 40, .inr (.inl ov))), (h1, .inl (cL, 40, .inr (.inl be))), (d1, .inl (cL, 40, .inr (.inl rd))), (e1, .inl (cL, 40, .inr (.inl ed)))] [.ref y, .int (nI k)]) (vp_Sl (fun r => r = bw_F (fun x => bw_m (ov x) k) bw_b 0 40)) 0 0 (fun _ => False) := by
  refine Met.ofW (cc := cM_under) (maxL := 5) (ret := (some .long)) (by decide) rfl ?_
  intro p e s m args below meth c s₁ B hml hv
  obtain ⟨rfl, hP, hK, hN⟩ := hv
  have hx := B.exec
  have hb := B.bytes
  have hr := B.returns
  have hts := atoms_spec (ws := wsM_under) B.pre
  have hT : ∀ w ∈ bwB, w.before _ s = true := fun w h => hts w (List.mem_cons_of_mem _ h)
  have hown : s.vm.findClass RM = some m.cls := findClass_of_methodNamed B.named
  have hlocks := B.notSynchronized
  have hl := lv_entry ([.ref y, .int (nI k)]) (n := 5) (Nat.le_of_ble_eq_true rfl)
  rw [lg_entry_eq]
  generalize (lg_sl ([.ref y, .int (nI k)]) ++ List.replicate (5 - (lg_sl ([.ref y, .int (nI k)])).length) Slot.unset).toArray = ls at hl ⊢
  have hl : lv_has ls 5 [(0, .ref y), (1, .int (nI k))] := hl
  refine lv_lconst (v := 0) hx hb dM_under_0 (by decide) ?_
  refine lv_lstore_n (lv' := [(2, .long 0), (0, .ref y), (1, .int (nI k))]) hx hb dM_under_1 rfl hl (by decide) rfl (fun ls hl => ?_)
  refine lv_iconst (v := nI 0) hx hb dM_under_2 (by decide) ?_
  refine lv_istore (lv' := [(4, .int (nI 0)), (2, .long 0), (0, .ref y), (1, .int (nI k))]) hx hb dM_under_3 hl (by decide) rfl (fun ls hl => ?_)
  have loop_5 : ∀ (n_5 : Nat) (i : Nat) (acc : Int64), (i ≤ 40) → (40 < i + n_5) → (acc = bw_F (fun x => bw_m (ov x) k) bw_b 0 i) → ∀ (ls : Array Slot), lv_has ls 5 [(0, .ref y), (1, .int (nI k)), (2, .long acc), (4, .int (nI i))] → W p l e (headSpec wsM_under ({ frames := 1, cells := 0, slots := 0, locals := 22 } : Room)).room s m ([.ref y, .int (nI k)] : List Value).toArray below meth c s.heap [] 0 0 (MQ below (vp_Sl (fun r => r = bw_F (fun x => bw_m (ov x) k) bw_b 0 40)) ([.ref y, .int (nI k)] : List Value).toArray s 0 0 (fun _ => False)) (F0 m 5 ls []) := by
    intro n_5
    induction n_5 with
    | zero => intro i acc hii hfi ea; exfalso; omega
    | succ n_5 ih_5 =>
      intro i acc hii hfi ea ls hl
      refine lv_iload hx hb dM_under_5 (lv_at hl 3 rfl) ?_
      refine lv_bipush (v := nI 40) hx hb dM_under_7 (by decide) ?_
      refine lv_icmp_ge (tgt := 40) hx hb dM_under_9 (by decide) (fun c_1 => ?_) (fun c_1 => ?_)
      · skip
        have c_1 : 40 ≤ i := (nI_leI (a := 40) (b := i) (by omega) (by omega)).mp c_1
        refine lv_lload_n hx hb dM_under_40 rfl (lv_at hl 2 rfl) ?_
        exact W.lret (v := acc) hx hb hr (fun t9 ht9 hW9 => ⟨_, rfl, (by rw [ea, show i = 40 by omega]), ht9⟩) (fun q hq => nomatch hq) dM_under_41
      · skip
        have c_1 : ¬ 40 ≤ i := fun z => c_1 ((nI_leI (a := 40) (b := i) (by omega) (by omega)).mpr z)
        refine lv_aload_n hx hb dM_under_12 rfl (lv_at hl 0 rfl) ?_
        refine va_get (D := (dC, dI)) (ci := 3) (v := .ref v1) (C := RM) (T := TM) (N := 15) hx hb hT inM hown hK hP 0 rfl rfl 9 (by decide) (hT _ hw_347) (fun _ h9 => h9) rfl dM_under_13 ?_
        refine lv_iload hx hb dM_under_16 (lv_at hl 3 rfl) ?_
        refine bw_lald hx hb hK hP 4 1 (k := i) rfl rfl (by omega) (by decide) dM_under_18 ?_
        refine lv_iload_n hx hb dM_under_19 rfl (lv_at hl 1 rfl) ?_
        refine vp_callSi (W.runS (As := [.long (ov i), .int (nI k)]) (rest := []) ⟨hx, hb, hml, hown, hT⟩ (m_is l (ov i) k (by omega)) (cwS 2 hT g_M_36 rfl rfl rfl (by decide +kernel) ⟨Nat.le_of_ble_eq_true rfl, Nat.le_of_ble_eq_true rfl⟩) preEq rfl rfl hl.1 rfl (lv_room (Nat.le_of_ble_eq_true rfl)) dM_under_20 ⟨Nat.le_of_ble_eq_true rfl, Nat.le_of_ble_eq_true rfl⟩) (fun r_2 hr_2 => ?_)
        rw [hr_2]; clear hr_2
        refine lv_if_eq (tgt := 34) hx hb dM_under_23 (by decide) (fun c_3 => ?_) (fun c_3 => ?_)
        · skip
          have c_3 := bw_i0.mp c_3
          refine lv_iinc (v := nI (i + 1)) (lv' := [(4, .int (nI (i + 1))), (0, .ref y), (1, .int (nI k)), (2, .long acc)]) hx hb dM_under_34 hl (k := 3) rfl (nI_1 _) (by decide) rfl (fun ls hl => ?_)
          refine lv_goto (tgt := 5) hx hb dM_under_37 (by decide) ?_
          exact ih_5 (i + 1) acc (by omega) (by omega) (by first | (rw [bw_F_t (c := fun x => bw_m (ov x) k) (n := i) c_3, ← ea]; done) | (rw [bw_F_f (c := fun x => bw_m (ov x) k) (n := i) c_3, ← ea]; done)) ls (lv_sub hl [1, 2, 3, 0] rfl)
        · skip
          have c_3 := bw_in0 c_3
          refine lv_lload_n hx hb dM_under_26 rfl (lv_at hl 2 rfl) ?_
          refine lv_iload hx hb dM_under_27 (lv_at hl 3 rfl) ?_
          refine vp_callSl (W.runS (As := [.int (nI i)]) (rest := [.long acc]) ⟨hx, hb, hml, hown, hT⟩ (m_bit l i) (cwS 1 hT g_M_48 rfl rfl rfl (by decide +kernel) ⟨Nat.le_of_ble_eq_true rfl, Nat.le_of_ble_eq_true rfl⟩) preEq rfl rfl hl.1 rfl (lv_room (Nat.le_of_ble_eq_true rfl)) dM_under_29 ⟨Nat.le_of_ble_eq_true rfl, Nat.le_of_ble_eq_true rfl⟩) (fun r_4 hr_4 => ?_)
          rw [hr_4]; clear hr_4
          refine lv_lor hx hb dM_under_32 ?_
          refine lv_lstore_n (lv' := [(2, .long (acc ||| (bw_b i))), (0, .ref y), (1, .int (nI k)), (4, .int (nI i))]) hx hb dM_under_33 rfl hl (by decide) rfl (fun ls hl => ?_)
          refine lv_iinc (v := nI (i + 1)) (lv' := [(4, .int (nI (i + 1))), (2, .long (acc ||| (bw_b i))), (0, .ref y), (1, .int (nI k))]) hx hb dM_under_34 hl (k := 3) rfl (nI_1 _) (by decide) rfl (fun ls hl => ?_)
          refine lv_goto (tgt := 5) hx hb dM_under_37 (by decide) ?_
          exact ih_5 (i + 1) (acc ||| (bw_b i)) (by omega) (by omega) (by first | (rw [bw_F_t (c := fun x => bw_m (ov x) k) (n := i) c_3, ← ea]; done) | (rw [bw_F_f (c := fun x => bw_m (ov x) k) (n := i) c_3, ← ea]; done)) ls (lv_sub hl [2, 3, 1, 0] rfl)
  exact loop_5 41 0 0 (by omega) (by omega) (rfl) ls (lv_sub hl [2, 3, 1, 0] rfl)
set_option maxHeartbeats 4000000 in
set_option maxRecDepth 100000 in
theorem m_comeToN (l : Launch) (dC : Nat → ClassId) (dI : Nat → Nat → Nat) (y m1 m2 s1 v1 h1 d1 e1 : Nat) (cI cL : ClassId) (tw : Int32) (T : Int64) (mn tg : Nat → Int32) (kn : Int32) (ms : Nat → Int64) (re gd en : Int64) (ov be : Nat → Int64) (he : Int64) (rd ed : Nat → Int64) (pl : Int32) : Met l yM_comeTo wsM_comeTo ({ frames := 1, cells := 0, slots := 0, locals := 22 } : Room) (bw_Ro (dC, dI) [(cI, .int), (cL, .long)] [(y, .inr (3, [.int tw, .long T, .ref m1, .ref m2, .int kn, .ref s1, .long re, .long gd, .long en, .ref v1, .ref h1, .long he, .ref d1, .ref e1, .int pl])), (m1, .inl (cI, 40, .inl mn)), (m2, .inl (cI, 160, .inl tg)), (s1, .inl (cL, 40, .inr (.inl ms))), (v1, .inl (cL, 40, .inr (.inl ov))), (h1, .inl (cL, 40, .inr (.inl be))), (d1, .inl (cL, 40, .inr (.inl rd))), (e1, .inl (cL, 40, .inr (.inl ed)))] [.ref y, .int (-1)]) (vp_Sl (fun r => bw_Lp (bw_cn ms (none)) (bw_c0 T (none)) r)) 0 0 (fun _ => False) := by
  refine Met.ofW (cc := cM_comeTo) (maxL := 8) (ret := (some .long)) (by decide) rfl ?_
  intro p e s m args below meth c s₁ B hml hv
  obtain ⟨rfl, hP, hK, hN⟩ := hv
  have hx := B.exec
  have hb := B.bytes
  have hr := B.returns
  have hts := atoms_spec (ws := wsM_comeTo) B.pre
  have hT : ∀ w ∈ bwB, w.before _ s = true := fun w h => hts w (List.mem_cons_of_mem _ h)
  have hown : s.vm.findClass RM = some m.cls := findClass_of_methodNamed B.named
  have hlocks := B.notSynchronized
  have hl := lv_entry ([.ref y, .int (-1)]) (n := 8) (Nat.le_of_ble_eq_true rfl)
  rw [lg_entry_eq]
  generalize (lg_sl ([.ref y, .int (-1)]) ++ List.replicate (8 - (lg_sl ([.ref y, .int (-1)])).length) Slot.unset).toArray = ls at hl ⊢
  have hl : lv_has ls 8 [(0, .ref y), (1, .int (-1))] := hl
  refine lv_iload_n hx hb dM_comeTo_0 rfl (lv_at hl 1 rfl) ?_
  refine lv_if_ne (tgt := 8) hx hb dM_comeTo_1 (by decide) (fun c_1 => ?_) (fun c_1 => ?_)
  · skip
    refine lv_aload_n hx hb dM_comeTo_8 rfl (lv_at hl 0 rfl) ?_
    refine va_get (D := (dC, dI)) (ci := 3) (v := .long T) (C := RM) (T := TM) (N := 15) hx hb hT inM hown hK hP 0 rfl rfl 1 (by decide) (hT _ hw_339) (fun _ h9 => h9) rfl dM_comeTo_9 ?_
    refine lv_lconst (v := 1) hx hb dM_comeTo_12 (by decide) ?_
    refine lv_land hx hb dM_comeTo_13 ?_
    refine lv_lstore_n (lv' := [(2, .long (T &&& 1)), (0, .ref y), (1, .int (-1))]) hx hb dM_comeTo_14 rfl hl (by decide) rfl (fun ls hl => ?_)
    refine lv_iconst (v := 1) hx hb dM_comeTo_15 (by decide) ?_
    refine lv_istore (lv' := [(4, .int 1), (2, .long (T &&& 1)), (0, .ref y), (1, .int (-1))]) hx hb dM_comeTo_16 hl (by decide) rfl (fun ls hl => ?_)
    have loop_18 : ∀ (n_18 : Nat) (sx : Int64) (mo : Int32), (bw_Rc (bw_cn ms (none)) (bw_c0 T (none)) sx) → (bw_Mo (bw_cn ms (none)) sx mo n_18) → ∀ (ls : Array Slot), lv_has ls 8 [(0, .ref y), (1, .int (-1)), (2, .long sx), (4, .int mo)] → W p l e (headSpec wsM_comeTo ({ frames := 1, cells := 0, slots := 0, locals := 22 } : Room)).room s m ([.ref y, .int (-1)] : List Value).toArray below meth c s.heap [] 0 0 (MQ below (vp_Sl (fun r => bw_Lp (bw_cn ms (none)) (bw_c0 T (none)) r)) ([.ref y, .int (-1)] : List Value).toArray s 0 0 (fun _ => False)) (F0 m 18 ls []) := by
      intro n_18
      induction n_18 with
      | zero => intro sx mo hr9 hm9; exact (bw_Mo_z hm9).elim
      | succ n_18 ih_18 =>
        intro sx mo hr9 hm9 ls hl
        refine lv_iload hx hb dM_comeTo_18 (lv_at hl 3 rfl) ?_
        refine lv_if_eq (tgt := 101) hx hb dM_comeTo_20 (by decide) (fun c_2 => ?_) (fun c_2 => ?_)
        · skip
          refine lv_lload_n hx hb dM_comeTo_101 rfl (lv_at hl 2 rfl) ?_
          exact W.lret (v := sx) hx hb hr (fun t9 ht9 hW9 => ⟨_, rfl, bw_Mo_x hr9 hm9 c_2, ht9⟩) (fun q hq => nomatch hq) dM_comeTo_102
        · skip
          refine lv_lload_n hx hb dM_comeTo_23 rfl (lv_at hl 2 rfl) ?_
          refine lv_lstore (lv' := [(5, .long sx), (0, .ref y), (1, .int (-1)), (2, .long sx), (4, .int mo)]) hx hb dM_comeTo_24 hl (by decide) rfl (fun ls hl => ?_)
          refine lv_iconst (v := nI 0) hx hb dM_comeTo_26 (by decide) ?_
          refine lv_istore (lv' := [(7, .int (nI 0)), (5, .long sx), (0, .ref y), (1, .int (-1)), (2, .long sx), (4, .int mo)]) hx hb dM_comeTo_27 hl (by decide) rfl (fun ls hl => ?_)
          have loop_29 : ∀ (n_29 : Nat) (i : Nat) (acc : Int64), (i ≤ 40) → (40 < i + n_29) → (acc = bw_F (bw_m sx) ms sx i) → ∀ (ls : Array Slot), lv_has ls 8 [(0, .ref y), (1, .int (-1)), (2, .long sx), (4, .int mo), (5, .long acc), (7, .int (nI i))] → W p l e (headSpec wsM_comeTo ({ frames := 1, cells := 0, slots := 0, locals := 22 } : Room)).room s m ([.ref y, .int (-1)] : List Value).toArray below meth c s.heap [] 0 0 (MQ below (vp_Sl (fun r => bw_Lp (bw_cn ms (none)) (bw_c0 T (none)) r)) ([.ref y, .int (-1)] : List Value).toArray s 0 0 (fun _ => False)) (F0 m 29 ls []) := by
            intro n_29
            induction n_29 with
            | zero => intro i acc hii hfi ea; exfalso; omega
            | succ n_29 ih_29 =>
              intro i acc hii hfi ea ls hl
              refine lv_iload hx hb dM_comeTo_29 (lv_at hl 5 rfl) ?_
              refine lv_bipush (v := nI 40) hx hb dM_comeTo_31 (by decide) ?_
              refine lv_icmp_ge (tgt := 63) hx hb dM_comeTo_33 (by decide) (fun c_3 => ?_) (fun c_3 => ?_)
              · skip
                have c_3 : 40 ≤ i := (nI_leI (a := 40) (b := i) (by omega) (by omega)).mp c_3
                refine lv_iload_n hx hb dM_comeTo_63 rfl (lv_at hl 1 rfl) ?_
                refine lv_iconst (v := -1) hx hb dM_comeTo_64 (by decide) ?_
                refine lv_icmp_eq (tgt := 81) hx hb dM_comeTo_65 (by decide) (fun c_4 => ?_) (fun c_4 => ?_)
                · skip
                  have e40 : i = 40 := by omega
                  obtain ⟨nn, e_nn⟩ : ∃ z : Int64, z = acc := ⟨_, rfl⟩
                  rw [← e_nn] at hl
                  have e_nn : nn = bw_cn ms (none) sx := by rw [e_nn, ea, e40]; rfl
                  refine lv_lload hx hb dM_comeTo_81 (lv_at hl 4 rfl) ?_
                  refine lv_lload_n hx hb dM_comeTo_83 rfl (lv_at hl 2 rfl) ?_
                  refine W.lcmp hx hb dM_comeTo_84 ?_
                  refine lv_if_eq (tgt := 92) hx hb dM_comeTo_85 (by decide) (fun c_5 => ?_) (fun c_5 => ?_)
                  · skip
                    have c_5 := bw_cmp0.mp c_5
                    refine lv_iconst (v := 0) hx hb dM_comeTo_92 (by decide) ?_
                    refine lv_istore (lv' := [(4, .int 0), (0, .ref y), (1, .int (-1)), (2, .long sx), (5, .long nn), (7, .int (nI i))]) hx hb dM_comeTo_93 hl (by decide) rfl (fun ls hl => ?_)
                    refine lv_lload hx hb dM_comeTo_95 (lv_at hl 4 rfl) ?_
                    refine lv_lstore_n (lv' := [(2, .long nn), (4, .int 0), (0, .ref y), (1, .int (-1)), (5, .long nn), (7, .int (nI i))]) hx hb dM_comeTo_97 rfl hl (by decide) rfl (fun ls hl => ?_)
                    refine lv_goto (tgt := 18) hx hb dM_comeTo_98 (by decide) ?_
                    exact ih_18 nn 0 (bw_Rc_s hr9 e_nn) (bw_Mo_f hm9 c_2 e_nn c_5) ls (lv_sub hl [2, 3, 0, 1] rfl)
                  · skip
                    have c_5 := fun z => c_5 (bw_cmp0.mpr z)
                    refine lv_iconst (v := 1) hx hb dM_comeTo_88 (by decide) ?_
                    refine lv_goto (tgt := 93) hx hb dM_comeTo_89 (by decide) ?_
                    refine lv_istore (lv' := [(4, .int 1), (0, .ref y), (1, .int (-1)), (2, .long sx), (5, .long nn), (7, .int (nI i))]) hx hb dM_comeTo_93 hl (by decide) rfl (fun ls hl => ?_)
                    refine lv_lload hx hb dM_comeTo_95 (lv_at hl 4 rfl) ?_
                    refine lv_lstore_n (lv' := [(2, .long nn), (4, .int 1), (0, .ref y), (1, .int (-1)), (5, .long nn), (7, .int (nI i))]) hx hb dM_comeTo_97 rfl hl (by decide) rfl (fun ls hl => ?_)
                    refine lv_goto (tgt := 18) hx hb dM_comeTo_98 (by decide) ?_
                    exact ih_18 nn 1 (bw_Rc_s hr9 e_nn) (bw_Mo_t hm9 c_2 (bw_cn_up (fun d z => by cases z) hr9) e_nn c_5) ls (lv_sub hl [2, 3, 0, 1] rfl)
                · skip
                  exact absurd rfl c_4
              · skip
                have c_3 : ¬ 40 ≤ i := fun z => c_3 ((nI_leI (a := 40) (b := i) (by omega) (by omega)).mpr z)
                refine lv_lload_n hx hb dM_comeTo_36 rfl (lv_at hl 2 rfl) ?_
                refine lv_iload hx hb dM_comeTo_37 (lv_at hl 5 rfl) ?_
                refine vp_callSi (W.runS (As := [.long sx, .int (nI i)]) (rest := []) ⟨hx, hb, hml, hown, hT⟩ (m_is l sx i (by omega)) (cwS 2 hT g_M_36 rfl rfl rfl (by decide +kernel) ⟨Nat.le_of_ble_eq_true rfl, Nat.le_of_ble_eq_true rfl⟩) preEq rfl rfl hl.1 rfl (lv_room (Nat.le_of_ble_eq_true rfl)) dM_comeTo_39 ⟨Nat.le_of_ble_eq_true rfl, Nat.le_of_ble_eq_true rfl⟩) (fun r_6 hr_6 => ?_)
                rw [hr_6]; clear hr_6
                refine lv_if_eq (tgt := 57) hx hb dM_comeTo_42 (by decide) (fun c_7 => ?_) (fun c_7 => ?_)
                · skip
                  have c_7 := bw_i0.mp c_7
                  refine lv_iinc (v := nI (i + 1)) (lv' := [(7, .int (nI (i + 1))), (0, .ref y), (1, .int (-1)), (2, .long sx), (4, .int mo), (5, .long acc)]) hx hb dM_comeTo_57 hl (k := 5) rfl (nI_1 _) (by decide) rfl (fun ls hl => ?_)
                  refine lv_goto (tgt := 29) hx hb dM_comeTo_60 (by decide) ?_
                  exact ih_29 (i + 1) acc (by omega) (by omega) (by first | (rw [bw_F_t (c := bw_m sx) (n := i) c_7, ← ea]; done) | (rw [bw_F_f (c := bw_m sx) (n := i) c_7, ← ea]; done)) ls (lv_sub hl [1, 2, 3, 4, 5, 0] rfl)
                · skip
                  have c_7 := bw_in0 c_7
                  refine lv_lload hx hb dM_comeTo_45 (lv_at hl 4 rfl) ?_
                  refine lv_aload_n hx hb dM_comeTo_47 rfl (lv_at hl 0 rfl) ?_
                  refine va_get (D := (dC, dI)) (ci := 3) (v := .ref s1) (C := RM) (T := TM) (N := 15) hx hb hT inM hown hK hP 0 rfl rfl 5 (by decide) (hT _ hw_343) (fun _ h9 => h9) rfl dM_comeTo_48 ?_
                  refine lv_iload hx hb dM_comeTo_51 (lv_at hl 5 rfl) ?_
                  refine bw_lald hx hb hK hP 3 1 (k := i) rfl rfl (by omega) (by decide) dM_comeTo_53 ?_
                  refine lv_lor hx hb dM_comeTo_54 ?_
                  refine lv_lstore (lv' := [(5, .long (acc ||| (ms i))), (0, .ref y), (1, .int (-1)), (2, .long sx), (4, .int mo), (7, .int (nI i))]) hx hb dM_comeTo_55 hl (by decide) rfl (fun ls hl => ?_)
                  refine lv_iinc (v := nI (i + 1)) (lv' := [(7, .int (nI (i + 1))), (5, .long (acc ||| (ms i))), (0, .ref y), (1, .int (-1)), (2, .long sx), (4, .int mo)]) hx hb dM_comeTo_57 hl (k := 5) rfl (nI_1 _) (by decide) rfl (fun ls hl => ?_)
                  refine lv_goto (tgt := 29) hx hb dM_comeTo_60 (by decide) ?_
                  exact ih_29 (i + 1) (acc ||| (ms i)) (by omega) (by omega) (by first | (rw [bw_F_t (c := bw_m sx) (n := i) c_7, ← ea]; done) | (rw [bw_F_f (c := bw_m sx) (n := i) c_7, ← ea]; done)) ls (lv_sub hl [2, 3, 4, 5, 1, 0] rfl)
          exact loop_29 41 0 sx (by omega) (by omega) (rfl) ls (lv_sub hl [2, 3, 4, 5, 1, 0] rfl)
    exact loop_18 67 (T &&& 1) 1 (bw_Rc_0 (bw_c0_n T)) (bw_Mo_0) ls (lv_sub hl [2, 3, 1, 0] rfl)
  · skip
    exact absurd c_1 (by decide)
set_option maxHeartbeats 4000000 in
set_option maxRecDepth 100000 in
theorem m_comeToS (l : Launch) (dC : Nat → ClassId) (dI : Nat → Nat → Nat) (y m1 m2 s1 v1 h1 d1 e1 : Nat) (cI cL : ClassId) (tw : Int32) (T : Int64) (mn tg : Nat → Int32) (kn : Int32) (ms : Nat → Int64) (re gd en : Int64) (ov be : Nat → Int64) (he : Int64) (rd ed : Nat → Int64) (pl : Int32) (d : Nat) (hd : d < 40) : Met l yM_comeTo wsM_comeTo ({ frames := 1, cells := 0, slots := 0, locals := 22 } : Room) (bw_Ro (dC, dI) [(cI, .int), (cL, .long)] [(y, .inr (3, [.int tw, .long T, .ref m1, .ref m2, .int kn, .ref s1, .long re, .long gd, .long en, .ref v1, .ref h1, .long he, .ref d1, .ref e1, .int pl])), (m1, .inl (cI, 40, .inl mn)), (m2, .inl (cI, 160, .inl tg)), (s1, .inl (cL, 40, .inr (.inl ms))), (v1, .inl (cL, 40, .inr (.inl ov))), (h1, .inl (cL, 40, .inr (.inl be))), (d1, .inl (cL, 40, .inr (.inl rd))), (e1, .inl (cL, 40, .inr (.inl ed)))] [.ref y, .int (nI d)]) (vp_Sl (fun r => bw_Lp (bw_cn ms (some d)) (bw_c0 T (some d)) r)) 0 0 (fun _ => False) := by
  refine Met.ofW (cc := cM_comeTo) (maxL := 8) (ret := (some .long)) (by decide) rfl ?_
  intro p e s m args below meth c s₁ B hml hv
  obtain ⟨rfl, hP, hK, hN⟩ := hv
  have hx := B.exec
  have hb := B.bytes
  have hr := B.returns
  have hts := atoms_spec (ws := wsM_comeTo) B.pre
  have hT : ∀ w ∈ bwB, w.before _ s = true := fun w h => hts w (List.mem_cons_of_mem _ h)
  have hown : s.vm.findClass RM = some m.cls := findClass_of_methodNamed B.named
  have hlocks := B.notSynchronized
  have hl := lv_entry ([.ref y, .int (nI d)]) (n := 8) (Nat.le_of_ble_eq_true rfl)
  rw [lg_entry_eq]
  generalize (lg_sl ([.ref y, .int (nI d)]) ++ List.replicate (8 - (lg_sl ([.ref y, .int (nI d)])).length) Slot.unset).toArray = ls at hl ⊢
  have hl : lv_has ls 8 [(0, .ref y), (1, .int (nI d))] := hl
  refine lv_iload_n hx hb dM_comeTo_0 rfl (lv_at hl 1 rfl) ?_
  refine lv_if_ne (tgt := 8) hx hb dM_comeTo_1 (by decide) (fun c_1 => ?_) (fun c_1 => ?_)
  · skip
    refine lv_aload_n hx hb dM_comeTo_8 rfl (lv_at hl 0 rfl) ?_
    refine va_get (D := (dC, dI)) (ci := 3) (v := .long T) (C := RM) (T := TM) (N := 15) hx hb hT inM hown hK hP 0 rfl rfl 1 (by decide) (hT _ hw_339) (fun _ h9 => h9) rfl dM_comeTo_9 ?_
    refine lv_lconst (v := 1) hx hb dM_comeTo_12 (by decide) ?_
    refine lv_land hx hb dM_comeTo_13 ?_
    refine lv_lstore_n (lv' := [(2, .long (T &&& 1)), (0, .ref y), (1, .int (nI d))]) hx hb dM_comeTo_14 rfl hl (by decide) rfl (fun ls hl => ?_)
    refine lv_iconst (v := 1) hx hb dM_comeTo_15 (by decide) ?_
    refine lv_istore (lv' := [(4, .int 1), (2, .long (T &&& 1)), (0, .ref y), (1, .int (nI d))]) hx hb dM_comeTo_16 hl (by decide) rfl (fun ls hl => ?_)
    have loop_18 : ∀ (n_18 : Nat) (sx : Int64) (mo : Int32), (bw_Rc (bw_cn ms (some d)) (bw_c0 T (some d)) sx) → (bw_Mo (bw_cn ms (some d)) sx mo n_18) → ∀ (ls : Array Slot), lv_has ls 8 [(0, .ref y), (1, .int (nI d)), (2, .long sx), (4, .int mo)] → W p l e (headSpec wsM_comeTo ({ frames := 1, cells := 0, slots := 0, locals := 22 } : Room)).room s m ([.ref y, .int (nI d)] : List Value).toArray below meth c s.heap [] 0 0 (MQ below (vp_Sl (fun r => bw_Lp (bw_cn ms (some d)) (bw_c0 T (some d)) r)) ([.ref y, .int (nI d)] : List Value).toArray s 0 0 (fun _ => False)) (F0 m 18 ls []) := by
      intro n_18
      induction n_18 with
      | zero => intro sx mo hr9 hm9; exact (bw_Mo_z hm9).elim
      | succ n_18 ih_18 =>
        intro sx mo hr9 hm9 ls hl
        refine lv_iload hx hb dM_comeTo_18 (lv_at hl 3 rfl) ?_
        refine lv_if_eq (tgt := 101) hx hb dM_comeTo_20 (by decide) (fun c_2 => ?_) (fun c_2 => ?_)
        · skip
          refine lv_lload_n hx hb dM_comeTo_101 rfl (lv_at hl 2 rfl) ?_
          exact W.lret (v := sx) hx hb hr (fun t9 ht9 hW9 => ⟨_, rfl, bw_Mo_x hr9 hm9 c_2, ht9⟩) (fun q hq => nomatch hq) dM_comeTo_102
        · skip
          refine lv_lload_n hx hb dM_comeTo_23 rfl (lv_at hl 2 rfl) ?_
          refine lv_lstore (lv' := [(5, .long sx), (0, .ref y), (1, .int (nI d)), (2, .long sx), (4, .int mo)]) hx hb dM_comeTo_24 hl (by decide) rfl (fun ls hl => ?_)
          refine lv_iconst (v := nI 0) hx hb dM_comeTo_26 (by decide) ?_
          refine lv_istore (lv' := [(7, .int (nI 0)), (5, .long sx), (0, .ref y), (1, .int (nI d)), (2, .long sx), (4, .int mo)]) hx hb dM_comeTo_27 hl (by decide) rfl (fun ls hl => ?_)
          have loop_29 : ∀ (n_29 : Nat) (i : Nat) (acc : Int64), (i ≤ 40) → (40 < i + n_29) → (acc = bw_F (bw_m sx) ms sx i) → ∀ (ls : Array Slot), lv_has ls 8 [(0, .ref y), (1, .int (nI d)), (2, .long sx), (4, .int mo), (5, .long acc), (7, .int (nI i))] → W p l e (headSpec wsM_comeTo ({ frames := 1, cells := 0, slots := 0, locals := 22 } : Room)).room s m ([.ref y, .int (nI d)] : List Value).toArray below meth c s.heap [] 0 0 (MQ below (vp_Sl (fun r => bw_Lp (bw_cn ms (some d)) (bw_c0 T (some d)) r)) ([.ref y, .int (nI d)] : List Value).toArray s 0 0 (fun _ => False)) (F0 m 29 ls []) := by
            intro n_29
            induction n_29 with
            | zero => intro i acc hii hfi ea; exfalso; omega
            | succ n_29 ih_29 =>
              intro i acc hii hfi ea ls hl
              refine lv_iload hx hb dM_comeTo_29 (lv_at hl 5 rfl) ?_
              refine lv_bipush (v := nI 40) hx hb dM_comeTo_31 (by decide) ?_
              refine lv_icmp_ge (tgt := 63) hx hb dM_comeTo_33 (by decide) (fun c_3 => ?_) (fun c_3 => ?_)
              · skip
                have c_3 : 40 ≤ i := (nI_leI (a := 40) (b := i) (by omega) (by omega)).mp c_3
                refine lv_iload_n hx hb dM_comeTo_63 rfl (lv_at hl 1 rfl) ?_
                refine lv_iconst (v := -1) hx hb dM_comeTo_64 (by decide) ?_
                refine lv_icmp_eq (tgt := 81) hx hb dM_comeTo_65 (by decide) (fun c_4 => ?_) (fun c_4 => ?_)
                · skip
                  exact absurd c_4 (bw_nm1 (by omega))
                · skip
                  refine lv_lload hx hb dM_comeTo_68 (lv_at hl 4 rfl) ?_
                  refine lv_iload_n hx hb dM_comeTo_70 rfl (lv_at hl 1 rfl) ?_
                  refine vp_callSl (W.runS (As := [.int (nI d)]) (rest := [.long acc]) ⟨hx, hb, hml, hown, hT⟩ (m_bit l d) (cwS 1 hT g_M_48 rfl rfl rfl (by decide +kernel) ⟨Nat.le_of_ble_eq_true rfl, Nat.le_of_ble_eq_true rfl⟩) preEq rfl rfl hl.1 rfl (lv_room (Nat.le_of_ble_eq_true rfl)) dM_comeTo_71 ⟨Nat.le_of_ble_eq_true rfl, Nat.le_of_ble_eq_true rfl⟩) (fun r_5 hr_5 => ?_)
                  rw [hr_5]; clear hr_5
                  refine lv_ldc2 (v := (-1)) hx hb hown (hT _ hw_409) dM_comeTo_74 ?_
                  refine lv_lxor hx hb dM_comeTo_77 ?_
                  refine lv_land hx hb dM_comeTo_78 ?_
                  refine lv_lstore (lv' := [(5, .long (acc &&& ((bw_b d) ^^^ (-1)))), (0, .ref y), (1, .int (nI d)), (2, .long sx), (4, .int mo), (7, .int (nI i))]) hx hb dM_comeTo_79 hl (by decide) rfl (fun ls hl => ?_)
                  have e40 : i = 40 := by omega
                  obtain ⟨nn, e_nn⟩ : ∃ z : Int64, z = acc &&& ((bw_b d) ^^^ (-1)) := ⟨_, rfl⟩
                  rw [← e_nn] at hl
                  have e_nn : nn = bw_cn ms (some d) sx := by rw [e_nn, ea, e40]; rfl
                  refine lv_lload hx hb dM_comeTo_81 (lv_at hl 0 rfl) ?_
                  refine lv_lload_n hx hb dM_comeTo_83 rfl (lv_at hl 3 rfl) ?_
                  refine W.lcmp hx hb dM_comeTo_84 ?_
                  refine lv_if_eq (tgt := 92) hx hb dM_comeTo_85 (by decide) (fun c_6 => ?_) (fun c_6 => ?_)
                  · skip
                    have c_6 := bw_cmp0.mp c_6
                    refine lv_iconst (v := 0) hx hb dM_comeTo_92 (by decide) ?_
                    refine lv_istore (lv' := [(4, .int 0), (5, .long nn), (0, .ref y), (1, .int (nI d)), (2, .long sx), (7, .int (nI i))]) hx hb dM_comeTo_93 hl (by decide) rfl (fun ls hl => ?_)
                    refine lv_lload hx hb dM_comeTo_95 (lv_at hl 1 rfl) ?_
                    refine lv_lstore_n (lv' := [(2, .long nn), (4, .int 0), (5, .long nn), (0, .ref y), (1, .int (nI d)), (7, .int (nI i))]) hx hb dM_comeTo_97 rfl hl (by decide) rfl (fun ls hl => ?_)
                    refine lv_goto (tgt := 18) hx hb dM_comeTo_98 (by decide) ?_
                    exact ih_18 nn 0 (bw_Rc_s hr9 e_nn) (bw_Mo_f hm9 c_2 e_nn c_6) ls (lv_sub hl [3, 4, 0, 1] rfl)
                  · skip
                    have c_6 := fun z => c_6 (bw_cmp0.mpr z)
                    refine lv_iconst (v := 1) hx hb dM_comeTo_88 (by decide) ?_
                    refine lv_goto (tgt := 93) hx hb dM_comeTo_89 (by decide) ?_
                    refine lv_istore (lv' := [(4, .int 1), (5, .long nn), (0, .ref y), (1, .int (nI d)), (2, .long sx), (7, .int (nI i))]) hx hb dM_comeTo_93 hl (by decide) rfl (fun ls hl => ?_)
                    refine lv_lload hx hb dM_comeTo_95 (lv_at hl 1 rfl) ?_
                    refine lv_lstore_n (lv' := [(2, .long nn), (4, .int 1), (5, .long nn), (0, .ref y), (1, .int (nI d)), (7, .int (nI i))]) hx hb dM_comeTo_97 rfl hl (by decide) rfl (fun ls hl => ?_)
                    refine lv_goto (tgt := 18) hx hb dM_comeTo_98 (by decide) ?_
                    exact ih_18 nn 1 (bw_Rc_s hr9 e_nn) (bw_Mo_t hm9 c_2 (bw_cn_up (fun d9 z => by cases z; exact hd) hr9) e_nn c_6) ls (lv_sub hl [3, 4, 0, 1] rfl)
              · skip
                have c_3 : ¬ 40 ≤ i := fun z => c_3 ((nI_leI (a := 40) (b := i) (by omega) (by omega)).mpr z)
                refine lv_lload_n hx hb dM_comeTo_36 rfl (lv_at hl 2 rfl) ?_
                refine lv_iload hx hb dM_comeTo_37 (lv_at hl 5 rfl) ?_
                refine vp_callSi (W.runS (As := [.long sx, .int (nI i)]) (rest := []) ⟨hx, hb, hml, hown, hT⟩ (m_is l sx i (by omega)) (cwS 2 hT g_M_36 rfl rfl rfl (by decide +kernel) ⟨Nat.le_of_ble_eq_true rfl, Nat.le_of_ble_eq_true rfl⟩) preEq rfl rfl hl.1 rfl (lv_room (Nat.le_of_ble_eq_true rfl)) dM_comeTo_39 ⟨Nat.le_of_ble_eq_true rfl, Nat.le_of_ble_eq_true rfl⟩) (fun r_7 hr_7 => ?_)
                rw [hr_7]; clear hr_7
                refine lv_if_eq (tgt := 57) hx hb dM_comeTo_42 (by decide) (fun c_8 => ?_) (fun c_8 => ?_)
                · skip
                  have c_8 := bw_i0.mp c_8
                  refine lv_iinc (v := nI (i + 1)) (lv' := [(7, .int (nI (i + 1))), (0, .ref y), (1, .int (nI d)), (2, .long sx), (4, .int mo), (5, .long acc)]) hx hb dM_comeTo_57 hl (k := 5) rfl (nI_1 _) (by decide) rfl (fun ls hl => ?_)
                  refine lv_goto (tgt := 29) hx hb dM_comeTo_60 (by decide) ?_
                  exact ih_29 (i + 1) acc (by omega) (by omega) (by first | (rw [bw_F_t (c := bw_m sx) (n := i) c_8, ← ea]; done) | (rw [bw_F_f (c := bw_m sx) (n := i) c_8, ← ea]; done)) ls (lv_sub hl [1, 2, 3, 4, 5, 0] rfl)
                · skip
                  have c_8 := bw_in0 c_8
                  refine lv_lload hx hb dM_comeTo_45 (lv_at hl 4 rfl) ?_
                  refine lv_aload_n hx hb dM_comeTo_47 rfl (lv_at hl 0 rfl) ?_
                  refine va_get (D := (dC, dI)) (ci := 3) (v := .ref s1) (C := RM) (T := TM) (N := 15) hx hb hT inM hown hK hP 0 rfl rfl 5 (by decide) (hT _ hw_343) (fun _ h9 => h9) rfl dM_comeTo_48 ?_
                  refine lv_iload hx hb dM_comeTo_51 (lv_at hl 5 rfl) ?_
                  refine bw_lald hx hb hK hP 3 1 (k := i) rfl rfl (by omega) (by decide) dM_comeTo_53 ?_
                  refine lv_lor hx hb dM_comeTo_54 ?_
                  refine lv_lstore (lv' := [(5, .long (acc ||| (ms i))), (0, .ref y), (1, .int (nI d)), (2, .long sx), (4, .int mo), (7, .int (nI i))]) hx hb dM_comeTo_55 hl (by decide) rfl (fun ls hl => ?_)
                  refine lv_iinc (v := nI (i + 1)) (lv' := [(7, .int (nI (i + 1))), (5, .long (acc ||| (ms i))), (0, .ref y), (1, .int (nI d)), (2, .long sx), (4, .int mo)]) hx hb dM_comeTo_57 hl (k := 5) rfl (nI_1 _) (by decide) rfl (fun ls hl => ?_)
                  refine lv_goto (tgt := 29) hx hb dM_comeTo_60 (by decide) ?_
                  exact ih_29 (i + 1) (acc ||| (ms i)) (by omega) (by omega) (by first | (rw [bw_F_t (c := bw_m sx) (n := i) c_8, ← ea]; done) | (rw [bw_F_f (c := bw_m sx) (n := i) c_8, ← ea]; done)) ls (lv_sub hl [2, 3, 4, 5, 1, 0] rfl)
          exact loop_29 41 0 sx (by omega) (by omega) (rfl) ls (lv_sub hl [2, 3, 4, 5, 1, 0] rfl)
    exact loop_18 67 (T &&& 1) 1 (bw_Rc_0 (by first | exact bw_c0_n T | exact bw_c0_z hd c_1 | exact bw_c0_s c_1)) (bw_Mo_0) ls (lv_sub hl [2, 3, 1, 0] rfl)
  · skip
    refine lv_lconst (v := 0) hx hb dM_comeTo_4 (by decide) ?_
    refine lv_goto (tgt := 14) hx hb dM_comeTo_5 (by decide) ?_
    refine lv_lstore_n (lv' := [(2, .long 0), (0, .ref y), (1, .int (nI d))]) hx hb dM_comeTo_14 rfl hl (by decide) rfl (fun ls hl => ?_)
    refine lv_iconst (v := 1) hx hb dM_comeTo_15 (by decide) ?_
    refine lv_istore (lv' := [(4, .int 1), (2, .long 0), (0, .ref y), (1, .int (nI d))]) hx hb dM_comeTo_16 hl (by decide) rfl (fun ls hl => ?_)
    have loop_18 : ∀ (n_18 : Nat) (sx : Int64) (mo : Int32), (bw_Rc (bw_cn ms (some d)) (bw_c0 T (some d)) sx) → (bw_Mo (bw_cn ms (some d)) sx mo n_18) → ∀ (ls : Array Slot), lv_has ls 8 [(0, .ref y), (1, .int (nI d)), (2, .long sx), (4, .int mo)] → W p l e (headSpec wsM_comeTo ({ frames := 1, cells := 0, slots := 0, locals := 22 } : Room)).room s m ([.ref y, .int (nI d)] : List Value).toArray below meth c s.heap [] 0 0 (MQ below (vp_Sl (fun r => bw_Lp (bw_cn ms (some d)) (bw_c0 T (some d)) r)) ([.ref y, .int (nI d)] : List Value).toArray s 0 0 (fun _ => False)) (F0 m 18 ls []) := by
      intro n_18
      induction n_18 with
      | zero => intro sx mo hr9 hm9; exact (bw_Mo_z hm9).elim
      | succ n_18 ih_18 =>
        intro sx mo hr9 hm9 ls hl
        refine lv_iload hx hb dM_comeTo_18 (lv_at hl 3 rfl) ?_
        refine lv_if_eq (tgt := 101) hx hb dM_comeTo_20 (by decide) (fun c_9 => ?_) (fun c_9 => ?_)
        · skip
          refine lv_lload_n hx hb dM_comeTo_101 rfl (lv_at hl 2 rfl) ?_
          exact W.lret (v := sx) hx hb hr (fun t9 ht9 hW9 => ⟨_, rfl, bw_Mo_x hr9 hm9 c_9, ht9⟩) (fun q hq => nomatch hq) dM_comeTo_102
        · skip
          refine lv_lload_n hx hb dM_comeTo_23 rfl (lv_at hl 2 rfl) ?_
          refine lv_lstore (lv' := [(5, .long sx), (0, .ref y), (1, .int (nI d)), (2, .long sx), (4, .int mo)]) hx hb dM_comeTo_24 hl (by decide) rfl (fun ls hl => ?_)
          refine lv_iconst (v := nI 0) hx hb dM_comeTo_26 (by decide) ?_
          refine lv_istore (lv' := [(7, .int (nI 0)), (5, .long sx), (0, .ref y), (1, .int (nI d)), (2, .long sx), (4, .int mo)]) hx hb dM_comeTo_27 hl (by decide) rfl (fun ls hl => ?_)
          have loop_29 : ∀ (n_29 : Nat) (i : Nat) (acc : Int64), (i ≤ 40) → (40 < i + n_29) → (acc = bw_F (bw_m sx) ms sx i) → ∀ (ls : Array Slot), lv_has ls 8 [(0, .ref y), (1, .int (nI d)), (2, .long sx), (4, .int mo), (5, .long acc), (7, .int (nI i))] → W p l e (headSpec wsM_comeTo ({ frames := 1, cells := 0, slots := 0, locals := 22 } : Room)).room s m ([.ref y, .int (nI d)] : List Value).toArray below meth c s.heap [] 0 0 (MQ below (vp_Sl (fun r => bw_Lp (bw_cn ms (some d)) (bw_c0 T (some d)) r)) ([.ref y, .int (nI d)] : List Value).toArray s 0 0 (fun _ => False)) (F0 m 29 ls []) := by
            intro n_29
            induction n_29 with
            | zero => intro i acc hii hfi ea; exfalso; omega
            | succ n_29 ih_29 =>
              intro i acc hii hfi ea ls hl
              refine lv_iload hx hb dM_comeTo_29 (lv_at hl 5 rfl) ?_
              refine lv_bipush (v := nI 40) hx hb dM_comeTo_31 (by decide) ?_
              refine lv_icmp_ge (tgt := 63) hx hb dM_comeTo_33 (by decide) (fun c_10 => ?_) (fun c_10 => ?_)
              · skip
                have c_10 : 40 ≤ i := (nI_leI (a := 40) (b := i) (by omega) (by omega)).mp c_10
                refine lv_iload_n hx hb dM_comeTo_63 rfl (lv_at hl 1 rfl) ?_
                refine lv_iconst (v := -1) hx hb dM_comeTo_64 (by decide) ?_
                refine lv_icmp_eq (tgt := 81) hx hb dM_comeTo_65 (by decide) (fun c_11 => ?_) (fun c_11 => ?_)
                · skip
                  exact absurd c_11 (bw_nm1 (by omega))
                · skip
                  refine lv_lload hx hb dM_comeTo_68 (lv_at hl 4 rfl) ?_
                  refine lv_iload_n hx hb dM_comeTo_70 rfl (lv_at hl 1 rfl) ?_
                  refine vp_callSl (W.runS (As := [.int (nI d)]) (rest := [.long acc]) ⟨hx, hb, hml, hown, hT⟩ (m_bit l d) (cwS 1 hT g_M_48 rfl rfl rfl (by decide +kernel) ⟨Nat.le_of_ble_eq_true rfl, Nat.le_of_ble_eq_true rfl⟩) preEq rfl rfl hl.1 rfl (lv_room (Nat.le_of_ble_eq_true rfl)) dM_comeTo_71 ⟨Nat.le_of_ble_eq_true rfl, Nat.le_of_ble_eq_true rfl⟩) (fun r_12 hr_12 => ?_)
                  rw [hr_12]; clear hr_12
                  refine lv_ldc2 (v := (-1)) hx hb hown (hT _ hw_409) dM_comeTo_74 ?_
                  refine lv_lxor hx hb dM_comeTo_77 ?_
                  refine lv_land hx hb dM_comeTo_78 ?_
                  refine lv_lstore (lv' := [(5, .long (acc &&& ((bw_b d) ^^^ (-1)))), (0, .ref y), (1, .int (nI d)), (2, .long sx), (4, .int mo), (7, .int (nI i))]) hx hb dM_comeTo_79 hl (by decide) rfl (fun ls hl => ?_)
                  have e40 : i = 40 := by omega
                  obtain ⟨nn, e_nn⟩ : ∃ z : Int64, z = acc &&& ((bw_b d) ^^^ (-1)) := ⟨_, rfl⟩
                  rw [← e_nn] at hl
                  have e_nn : nn = bw_cn ms (some d) sx := by rw [e_nn, ea, e40]; rfl
                  refine lv_lload hx hb dM_comeTo_81 (lv_at hl 0 rfl) ?_
                  refine lv_lload_n hx hb dM_comeTo_83 rfl (lv_at hl 3 rfl) ?_
                  refine W.lcmp hx hb dM_comeTo_84 ?_
                  refine lv_if_eq (tgt := 92) hx hb dM_comeTo_85 (by decide) (fun c_13 => ?_) (fun c_13 => ?_)
                  · skip
                    have c_13 := bw_cmp0.mp c_13
                    refine lv_iconst (v := 0) hx hb dM_comeTo_92 (by decide) ?_
                    refine lv_istore (lv' := [(4, .int 0), (5, .long nn), (0, .ref y), (1, .int (nI d)), (2, .long sx), (7, .int (nI i))]) hx hb dM_comeTo_93 hl (by decide) rfl (fun ls hl => ?_)
                    refine lv_lload hx hb dM_comeTo_95 (lv_at hl 1 rfl) ?_
                    refine lv_lstore_n (lv' := [(2, .long nn), (4, .int 0), (5, .long nn), (0, .ref y), (1, .int (nI d)), (7, .int (nI i))]) hx hb dM_comeTo_97 rfl hl (by decide) rfl (fun ls hl => ?_)
                    refine lv_goto (tgt := 18) hx hb dM_comeTo_98 (by decide) ?_
                    exact ih_18 nn 0 (bw_Rc_s hr9 e_nn) (bw_Mo_f hm9 c_9 e_nn c_13) ls (lv_sub hl [3, 4, 0, 1] rfl)
                  · skip
                    have c_13 := fun z => c_13 (bw_cmp0.mpr z)
                    refine lv_iconst (v := 1) hx hb dM_comeTo_88 (by decide) ?_
                    refine lv_goto (tgt := 93) hx hb dM_comeTo_89 (by decide) ?_
                    refine lv_istore (lv' := [(4, .int 1), (5, .long nn), (0, .ref y), (1, .int (nI d)), (2, .long sx), (7, .int (nI i))]) hx hb dM_comeTo_93 hl (by decide) rfl (fun ls hl => ?_)
                    refine lv_lload hx hb dM_comeTo_95 (lv_at hl 1 rfl) ?_
                    refine lv_lstore_n (lv' := [(2, .long nn), (4, .int 1), (5, .long nn), (0, .ref y), (1, .int (nI d)), (7, .int (nI i))]) hx hb dM_comeTo_97 rfl hl (by decide) rfl (fun ls hl => ?_)
                    refine lv_goto (tgt := 18) hx hb dM_comeTo_98 (by decide) ?_
                    exact ih_18 nn 1 (bw_Rc_s hr9 e_nn) (bw_Mo_t hm9 c_9 (bw_cn_up (fun d9 z => by cases z; exact hd) hr9) e_nn c_13) ls (lv_sub hl [3, 4, 0, 1] rfl)
              · skip
                have c_10 : ¬ 40 ≤ i := fun z => c_10 ((nI_leI (a := 40) (b := i) (by omega) (by omega)).mpr z)
                refine lv_lload_n hx hb dM_comeTo_36 rfl (lv_at hl 2 rfl) ?_
                refine lv_iload hx hb dM_comeTo_37 (lv_at hl 5 rfl) ?_
                refine vp_callSi (W.runS (As := [.long sx, .int (nI i)]) (rest := []) ⟨hx, hb, hml, hown, hT⟩ (m_is l sx i (by omega)) (cwS 2 hT g_M_36 rfl rfl rfl (by decide +kernel) ⟨Nat.le_of_ble_eq_true rfl, Nat.le_of_ble_eq_true rfl⟩) preEq rfl rfl hl.1 rfl (lv_room (Nat.le_of_ble_eq_true rfl)) dM_comeTo_39 ⟨Nat.le_of_ble_eq_true rfl, Nat.le_of_ble_eq_true rfl⟩) (fun r_14 hr_14 => ?_)
                rw [hr_14]; clear hr_14
                refine lv_if_eq (tgt := 57) hx hb dM_comeTo_42 (by decide) (fun c_15 => ?_) (fun c_15 => ?_)
                · skip
                  have c_15 := bw_i0.mp c_15
                  refine lv_iinc (v := nI (i + 1)) (lv' := [(7, .int (nI (i + 1))), (0, .ref y), (1, .int (nI d)), (2, .long sx), (4, .int mo), (5, .long acc)]) hx hb dM_comeTo_57 hl (k := 5) rfl (nI_1 _) (by decide) rfl (fun ls hl => ?_)
                  refine lv_goto (tgt := 29) hx hb dM_comeTo_60 (by decide) ?_
                  exact ih_29 (i + 1) acc (by omega) (by omega) (by first | (rw [bw_F_t (c := bw_m sx) (n := i) c_15, ← ea]; done) | (rw [bw_F_f (c := bw_m sx) (n := i) c_15, ← ea]; done)) ls (lv_sub hl [1, 2, 3, 4, 5, 0] rfl)
                · skip
                  have c_15 := bw_in0 c_15
                  refine lv_lload hx hb dM_comeTo_45 (lv_at hl 4 rfl) ?_
                  refine lv_aload_n hx hb dM_comeTo_47 rfl (lv_at hl 0 rfl) ?_
                  refine va_get (D := (dC, dI)) (ci := 3) (v := .ref s1) (C := RM) (T := TM) (N := 15) hx hb hT inM hown hK hP 0 rfl rfl 5 (by decide) (hT _ hw_343) (fun _ h9 => h9) rfl dM_comeTo_48 ?_
                  refine lv_iload hx hb dM_comeTo_51 (lv_at hl 5 rfl) ?_
                  refine bw_lald hx hb hK hP 3 1 (k := i) rfl rfl (by omega) (by decide) dM_comeTo_53 ?_
                  refine lv_lor hx hb dM_comeTo_54 ?_
                  refine lv_lstore (lv' := [(5, .long (acc ||| (ms i))), (0, .ref y), (1, .int (nI d)), (2, .long sx), (4, .int mo), (7, .int (nI i))]) hx hb dM_comeTo_55 hl (by decide) rfl (fun ls hl => ?_)
                  refine lv_iinc (v := nI (i + 1)) (lv' := [(7, .int (nI (i + 1))), (5, .long (acc ||| (ms i))), (0, .ref y), (1, .int (nI d)), (2, .long sx), (4, .int mo)]) hx hb dM_comeTo_57 hl (k := 5) rfl (nI_1 _) (by decide) rfl (fun ls hl => ?_)
                  refine lv_goto (tgt := 29) hx hb dM_comeTo_60 (by decide) ?_
                  exact ih_29 (i + 1) (acc ||| (ms i)) (by omega) (by omega) (by first | (rw [bw_F_t (c := bw_m sx) (n := i) c_15, ← ea]; done) | (rw [bw_F_f (c := bw_m sx) (n := i) c_15, ← ea]; done)) ls (lv_sub hl [2, 3, 4, 5, 1, 0] rfl)
          exact loop_29 41 0 sx (by omega) (by omega) (rfl) ls (lv_sub hl [2, 3, 4, 5, 1, 0] rfl)
    exact loop_18 67 0 1 (bw_Rc_0 (by first | exact bw_c0_n T | exact bw_c0_z hd c_1 | exact bw_c0_s c_1)) (bw_Mo_0) ls (lv_sub hl [2, 3, 1, 0] rfl)
set_option maxHeartbeats 4000000 in
set_option maxRecDepth 100000 in
theorem m_leadToN (l : Launch) (dC : Nat → ClassId) (dI : Nat → Nat → Nat) (y m1 m2 s1 v1 h1 d1 e1 : Nat) (cI cL : ClassId) (tw : Int32) (T : Int64) (mn tg : Nat → Int32) (kn : Int32) (ms : Nat → Int64) (re gd en : Int64) (ov be : Nat → Int64) (he : Int64) (rd ed : Nat → Int64) (pl : Int32) (so : Int64) : Met l yM_leadTo wsM_leadTo ({ frames := 1, cells := 0, slots := 0, locals := 22 } : Room) (bw_Ro (dC, dI) [(cI, .int), (cL, .long)] [(y, .inr (3, [.int tw, .long T, .ref m1, .ref m2, .int kn, .ref s1, .long re, .long gd, .long en, .ref v1, .ref h1, .long he, .ref d1, .ref e1, .int pl])), (m1, .inl (cI, 40, .inl mn)), (m2, .inl (cI, 160, .inl tg)), (s1, .inl (cL, 40, .inr (.inl ms))), (v1, .inl (cL, 40, .inr (.inl ov))), (h1, .inl (cL, 40, .inr (.inl be))), (d1, .inl (cL, 40, .inr (.inl rd))), (e1, .inl (cL, 40, .inr (.inl ed)))] [.ref y, .long so, .int (-1)]) (vp_Sl (fun r => bw_Lp (bw_ln T ms (bw_nt (none))) (so &&& (bw_nt (none) ^^^ (-1))) r)) 0 0 (fun _ => False) := by
  refine Met.ofW (cc := cM_leadTo) (maxL := 12) (ret := (some .long)) (by decide) rfl ?_
  intro p e s m args below meth c s₁ B hml hv
  obtain ⟨rfl, hP, hK, hN⟩ := hv
  have hx := B.exec
  have hb := B.bytes
  have hr := B.returns
  have hts := atoms_spec (ws := wsM_leadTo) B.pre
  have hT : ∀ w ∈ bwB, w.before _ s = true := fun w h => hts w (List.mem_cons_of_mem _ h)
  have hown : s.vm.findClass RM = some m.cls := findClass_of_methodNamed B.named
  have hlocks := B.notSynchronized
  have hl := lv_entry ([.ref y, .long so, .int (-1)]) (n := 12) (Nat.le_of_ble_eq_true rfl)
  rw [lg_entry_eq]
  generalize (lg_sl ([.ref y, .long so, .int (-1)]) ++ List.replicate (12 - (lg_sl ([.ref y, .long so, .int (-1)])).length) Slot.unset).toArray = ls at hl ⊢
  have hl : lv_has ls 12 [(0, .ref y), (1, .long so), (3, .int (-1))] := hl
  refine lv_iload_n hx hb dM_leadTo_0 rfl (lv_at hl 2 rfl) ?_
  refine lv_iconst (v := -1) hx hb dM_leadTo_1 (by decide) ?_
  refine lv_icmp_ne (tgt := 9) hx hb dM_leadTo_2 (by decide) (fun c_1 => ?_) (fun c_1 => ?_)
  · skip
    exact absurd rfl c_1
  · skip
    refine lv_lconst (v := 0) hx hb dM_leadTo_5 (by decide) ?_
    refine lv_goto (tgt := 13) hx hb dM_leadTo_6 (by decide) ?_
    refine lv_lstore (lv' := [(4, .long 0), (0, .ref y), (1, .long so), (3, .int (-1))]) hx hb dM_leadTo_13 hl (by decide) rfl (fun ls hl => ?_)
    refine lv_lload_n hx hb dM_leadTo_15 rfl (lv_at hl 2 rfl) ?_
    refine lv_lload hx hb dM_leadTo_16 (lv_at hl 0 rfl) ?_
    refine lv_ldc2 (v := (-1)) hx hb hown (hT _ hw_409) dM_leadTo_18 ?_
    refine lv_lxor hx hb dM_leadTo_21 ?_
    refine lv_land hx hb dM_leadTo_22 ?_
    refine lv_lstore (lv' := [(6, .long (so &&& (0 ^^^ (-1)))), (4, .long 0), (0, .ref y), (1, .long so), (3, .int (-1))]) hx hb dM_leadTo_23 hl (by decide) rfl (fun ls hl => ?_)
    refine lv_iconst (v := 1) hx hb dM_leadTo_25 (by decide) ?_
    refine lv_istore (lv' := [(8, .int 1), (6, .long (so &&& (0 ^^^ (-1)))), (4, .long 0), (0, .ref y), (1, .long so), (3, .int (-1))]) hx hb dM_leadTo_26 hl (by decide) rfl (fun ls hl => ?_)
    have loop_28 : ∀ (n_28 : Nat) (sx : Int64) (mo : Int32), (bw_Rc (bw_ln T ms (bw_nt (none))) (so &&& (bw_nt (none) ^^^ (-1))) sx) → (bw_Mo (bw_ln T ms (bw_nt (none))) sx mo n_28) → ∀ (ls : Array Slot), lv_has ls 12 [(0, .ref y), (1, .long so), (3, .int (-1)), (4, .long 0), (6, .long sx), (8, .int mo)] → W p l e (headSpec wsM_leadTo ({ frames := 1, cells := 0, slots := 0, locals := 22 } : Room)).room s m ([.ref y, .long so, .int (-1)] : List Value).toArray below meth c s.heap [] 0 0 (MQ below (vp_Sl (fun r => bw_Lp (bw_ln T ms (bw_nt (none))) (so &&& (bw_nt (none) ^^^ (-1))) r)) ([.ref y, .long so, .int (-1)] : List Value).toArray s 0 0 (fun _ => False)) (F0 m 28 ls []) := by
      intro n_28
      induction n_28 with
      | zero => intro sx mo hr9 hm9; exact (bw_Mo_z hm9).elim
      | succ n_28 ih_28 =>
        intro sx mo hr9 hm9 ls hl
        refine lv_iload hx hb dM_leadTo_28 (lv_at hl 5 rfl) ?_
        refine lv_if_eq (tgt := 119) hx hb dM_leadTo_30 (by decide) (fun c_2 => ?_) (fun c_2 => ?_)
        · skip
          refine lv_lload hx hb dM_leadTo_119 (lv_at hl 4 rfl) ?_
          exact W.lret (v := sx) hx hb hr (fun t9 ht9 hW9 => ⟨_, rfl, bw_Mo_x hr9 hm9 c_2, ht9⟩) (fun q hq => nomatch hq) dM_leadTo_121
        · skip
          refine lv_lload hx hb dM_leadTo_33 (lv_at hl 4 rfl) ?_
          refine lv_lstore (lv' := [(9, .long sx), (0, .ref y), (1, .long so), (3, .int (-1)), (4, .long 0), (6, .long sx), (8, .int mo)]) hx hb dM_leadTo_35 hl (by decide) rfl (fun ls hl => ?_)
          refine lv_iconst (v := nI 0) hx hb dM_leadTo_37 (by decide) ?_
          refine lv_istore (lv' := [(11, .int (nI 0)), (9, .long sx), (0, .ref y), (1, .long so), (3, .int (-1)), (4, .long 0), (6, .long sx), (8, .int mo)]) hx hb dM_leadTo_38 hl (by decide) rfl (fun ls hl => ?_)
          have loop_40 : ∀ (n_40 : Nat) (i : Nat) (acc : Int64), (i ≤ 40) → (40 < i + n_40) → (acc = bw_F (fun b => bw_m (T &&& (0 ^^^ (-1))) b && !decide ((ms b &&& sx) = 0)) bw_b sx i) → ∀ (ls : Array Slot), lv_has ls 12 [(0, .ref y), (1, .long so), (3, .int (-1)), (4, .long 0), (6, .long sx), (8, .int mo), (9, .long acc), (11, .int (nI i))] → W p l e (headSpec wsM_leadTo ({ frames := 1, cells := 0, slots := 0, locals := 22 } : Room)).room s m ([.ref y, .long so, .int (-1)] : List Value).toArray below meth c s.heap [] 0 0 (MQ below (vp_Sl (fun r => bw_Lp (bw_ln T ms (bw_nt (none))) (so &&& (bw_nt (none) ^^^ (-1))) r)) ([.ref y, .long so, .int (-1)] : List Value).toArray s 0 0 (fun _ => False)) (F0 m 40 ls []) := by
            intro n_40
            induction n_40 with
            | zero => intro i acc hii hfi ea; exfalso; omega
            | succ n_40 ih_40 =>
              intro i acc hii hfi ea ls hl
              refine lv_iload hx hb dM_leadTo_40 (lv_at hl 7 rfl) ?_
              refine lv_bipush (v := nI 40) hx hb dM_leadTo_42 (by decide) ?_
              refine lv_icmp_ge (tgt := 97) hx hb dM_leadTo_44 (by decide) (fun c_3 => ?_) (fun c_3 => ?_)
              · skip
                have c_3 : 40 ≤ i := (nI_leI (a := 40) (b := i) (by omega) (by omega)).mp c_3
                have e40 : i = 40 := by omega
                have e_acc : acc = (bw_ln T ms (bw_nt (none))) sx := by rw [ea, e40]; rfl
                refine lv_lload hx hb dM_leadTo_97 (lv_at hl 6 rfl) ?_
                refine lv_lload hx hb dM_leadTo_99 (lv_at hl 4 rfl) ?_
                refine W.lcmp hx hb dM_leadTo_101 ?_
                refine lv_if_eq (tgt := 109) hx hb dM_leadTo_102 (by decide) (fun c_4 => ?_) (fun c_4 => ?_)
                · skip
                  have c_4 := bw_cmp0.mp c_4
                  refine lv_iconst (v := 0) hx hb dM_leadTo_109 (by decide) ?_
                  refine lv_istore (lv' := [(8, .int 0), (0, .ref y), (1, .long so), (3, .int (-1)), (4, .long 0), (6, .long sx), (9, .long acc), (11, .int (nI i))]) hx hb dM_leadTo_110 hl (by decide) rfl (fun ls hl => ?_)
                  refine lv_lload hx hb dM_leadTo_112 (lv_at hl 6 rfl) ?_
                  refine lv_lstore (lv' := [(6, .long acc), (8, .int 0), (0, .ref y), (1, .long so), (3, .int (-1)), (4, .long 0), (9, .long acc), (11, .int (nI i))]) hx hb dM_leadTo_114 hl (by decide) rfl (fun ls hl => ?_)
                  refine lv_goto (tgt := 28) hx hb dM_leadTo_116 (by decide) ?_
                  exact ih_28 acc 0 (bw_Rc_s hr9 e_acc) (bw_Mo_f hm9 c_2 e_acc c_4) ls (lv_sub hl [2, 3, 4, 5, 0, 1] rfl)
                · skip
                  have c_4 := fun z => c_4 (bw_cmp0.mpr z)
                  refine lv_iconst (v := 1) hx hb dM_leadTo_105 (by decide) ?_
                  refine lv_goto (tgt := 110) hx hb dM_leadTo_106 (by decide) ?_
                  refine lv_istore (lv' := [(8, .int 1), (0, .ref y), (1, .long so), (3, .int (-1)), (4, .long 0), (6, .long sx), (9, .long acc), (11, .int (nI i))]) hx hb dM_leadTo_110 hl (by decide) rfl (fun ls hl => ?_)
                  refine lv_lload hx hb dM_leadTo_112 (lv_at hl 6 rfl) ?_
                  refine lv_lstore (lv' := [(6, .long acc), (8, .int 1), (0, .ref y), (1, .long so), (3, .int (-1)), (4, .long 0), (9, .long acc), (11, .int (nI i))]) hx hb dM_leadTo_114 hl (by decide) rfl (fun ls hl => ?_)
                  refine lv_goto (tgt := 28) hx hb dM_leadTo_116 (by decide) ?_
                  exact ih_28 acc 1 (bw_Rc_s hr9 e_acc) (bw_Mo_t hm9 c_2 bw_ln_up e_acc c_4) ls (lv_sub hl [2, 3, 4, 5, 0, 1] rfl)
              · skip
                have c_3 : ¬ 40 ≤ i := fun z => c_3 ((nI_leI (a := 40) (b := i) (by omega) (by omega)).mpr z)
                refine lv_aload_n hx hb dM_leadTo_47 rfl (lv_at hl 0 rfl) ?_
                refine va_get (D := (dC, dI)) (ci := 3) (v := .long T) (C := RM) (T := TM) (N := 15) hx hb hT inM hown hK hP 0 rfl rfl 1 (by decide) (hT _ hw_339) (fun _ h9 => h9) rfl dM_leadTo_48 ?_
                refine lv_lload hx hb dM_leadTo_51 (lv_at hl 3 rfl) ?_
                refine lv_ldc2 (v := (-1)) hx hb hown (hT _ hw_409) dM_leadTo_53 ?_
                refine lv_lxor hx hb dM_leadTo_56 ?_
                refine lv_land hx hb dM_leadTo_57 ?_
                refine lv_iload hx hb dM_leadTo_58 (lv_at hl 7 rfl) ?_
                refine vp_callSi (W.runS (As := [.long (T &&& (0 ^^^ (-1))), .int (nI i)]) (rest := []) ⟨hx, hb, hml, hown, hT⟩ (m_is l (T &&& (0 ^^^ (-1))) i (by omega)) (cwS 2 hT g_M_36 rfl rfl rfl (by decide +kernel) ⟨Nat.le_of_ble_eq_true rfl, Nat.le_of_ble_eq_true rfl⟩) preEq rfl rfl hl.1 rfl (lv_room (Nat.le_of_ble_eq_true rfl)) dM_leadTo_60 ⟨Nat.le_of_ble_eq_true rfl, Nat.le_of_ble_eq_true rfl⟩) (fun r_5 hr_5 => ?_)
                rw [hr_5]; clear hr_5
                refine lv_if_eq (tgt := 91) hx hb dM_leadTo_63 (by decide) (fun c_6 => ?_) (fun c_6 => ?_)
                · skip
                  have c_6 := bw_i0.mp c_6
                  refine lv_iinc (v := nI (i + 1)) (lv' := [(11, .int (nI (i + 1))), (0, .ref y), (1, .long so), (3, .int (-1)), (4, .long 0), (6, .long sx), (8, .int mo), (9, .long acc)]) hx hb dM_leadTo_91 hl (k := 7) rfl (nI_1 _) (by decide) rfl (fun ls hl => ?_)
                  refine lv_goto (tgt := 40) hx hb dM_leadTo_94 (by decide) ?_
                  exact ih_40 (i + 1) acc (by omega) (by omega) (by first | (rw [bw_F_t (c := fun b => bw_m (T &&& (0 ^^^ (-1))) b && !decide ((ms b &&& sx) = 0)) (n := i) (bw_lnT c_3 c_6), ← ea]; done) | (rw [bw_F_f (c := fun b => bw_m (T &&& (0 ^^^ (-1))) b && !decide ((ms b &&& sx) = 0)) (n := i) (bw_lnF1 c_6), ← ea]; done) | (rw [bw_F_f (c := fun b => bw_m (T &&& (0 ^^^ (-1))) b && !decide ((ms b &&& sx) = 0)) (n := i) (bw_lnF2 c_6), ← ea]; done) ) ls (lv_sub hl [1, 2, 3, 4, 5, 6, 7, 0] rfl)
                · skip
                  have c_6 := bw_in0 c_6
                  refine lv_aload_n hx hb dM_leadTo_66 rfl (lv_at hl 0 rfl) ?_
                  refine va_get (D := (dC, dI)) (ci := 3) (v := .ref s1) (C := RM) (T := TM) (N := 15) hx hb hT inM hown hK hP 0 rfl rfl 5 (by decide) (hT _ hw_343) (fun _ h9 => h9) rfl dM_leadTo_67 ?_
                  refine lv_iload hx hb dM_leadTo_70 (lv_at hl 7 rfl) ?_
                  refine bw_lald hx hb hK hP 3 1 (k := i) rfl rfl (by omega) (by decide) dM_leadTo_72 ?_
                  refine lv_lload hx hb dM_leadTo_73 (lv_at hl 4 rfl) ?_
                  refine lv_land hx hb dM_leadTo_75 ?_
                  refine lv_lconst (v := 0) hx hb dM_leadTo_76 (by decide) ?_
                  refine W.lcmp hx hb dM_leadTo_77 ?_
                  refine lv_if_eq (tgt := 91) hx hb dM_leadTo_78 (by decide) (fun c_7 => ?_) (fun c_7 => ?_)
                  · skip
                    have c_7 := bw_cmp0.mp c_7
                    refine lv_iinc (v := nI (i + 1)) (lv' := [(11, .int (nI (i + 1))), (0, .ref y), (1, .long so), (3, .int (-1)), (4, .long 0), (6, .long sx), (8, .int mo), (9, .long acc)]) hx hb dM_leadTo_91 hl (k := 7) rfl (nI_1 _) (by decide) rfl (fun ls hl => ?_)
                    refine lv_goto (tgt := 40) hx hb dM_leadTo_94 (by decide) ?_
                    exact ih_40 (i + 1) acc (by omega) (by omega) (by first | (rw [bw_F_t (c := fun b => bw_m (T &&& (0 ^^^ (-1))) b && !decide ((ms b &&& sx) = 0)) (n := i) (bw_lnT c_6 c_7), ← ea]; done) | (rw [bw_F_f (c := fun b => bw_m (T &&& (0 ^^^ (-1))) b && !decide ((ms b &&& sx) = 0)) (n := i) (bw_lnF1 c_7), ← ea]; done) | (rw [bw_F_f (c := fun b => bw_m (T &&& (0 ^^^ (-1))) b && !decide ((ms b &&& sx) = 0)) (n := i) (bw_lnF2 c_7), ← ea]; done) ) ls (lv_sub hl [1, 2, 3, 4, 5, 6, 7, 0] rfl)
                  · skip
                    have c_7 := fun z => c_7 (bw_cmp0.mpr z)
                    refine lv_lload hx hb dM_leadTo_81 (lv_at hl 6 rfl) ?_
                    refine lv_iload hx hb dM_leadTo_83 (lv_at hl 7 rfl) ?_
                    refine vp_callSl (W.runS (As := [.int (nI i)]) (rest := [.long acc]) ⟨hx, hb, hml, hown, hT⟩ (m_bit l i) (cwS 1 hT g_M_48 rfl rfl rfl (by decide +kernel) ⟨Nat.le_of_ble_eq_true rfl, Nat.le_of_ble_eq_true rfl⟩) preEq rfl rfl hl.1 rfl (lv_room (Nat.le_of_ble_eq_true rfl)) dM_leadTo_85 ⟨Nat.le_of_ble_eq_true rfl, Nat.le_of_ble_eq_true rfl⟩) (fun r_8 hr_8 => ?_)
                    rw [hr_8]; clear hr_8
                    refine lv_lor hx hb dM_leadTo_88 ?_
                    refine lv_lstore (lv' := [(9, .long (acc ||| (bw_b i))), (0, .ref y), (1, .long so), (3, .int (-1)), (4, .long 0), (6, .long sx), (8, .int mo), (11, .int (nI i))]) hx hb dM_leadTo_89 hl (by decide) rfl (fun ls hl => ?_)
                    refine lv_iinc (v := nI (i + 1)) (lv' := [(11, .int (nI (i + 1))), (9, .long (acc ||| (bw_b i))), (0, .ref y), (1, .long so), (3, .int (-1)), (4, .long 0), (6, .long sx), (8, .int mo)]) hx hb dM_leadTo_91 hl (k := 7) rfl (nI_1 _) (by decide) rfl (fun ls hl => ?_)
                    refine lv_goto (tgt := 40) hx hb dM_leadTo_94 (by decide) ?_
                    exact ih_40 (i + 1) (acc ||| (bw_b i)) (by omega) (by omega) (by first | (rw [bw_F_t (c := fun b => bw_m (T &&& (0 ^^^ (-1))) b && !decide ((ms b &&& sx) = 0)) (n := i) (bw_lnT c_6 c_7), ← ea]; done) | (rw [bw_F_f (c := fun b => bw_m (T &&& (0 ^^^ (-1))) b && !decide ((ms b &&& sx) = 0)) (n := i) (bw_lnF1 c_7), ← ea]; done) | (rw [bw_F_f (c := fun b => bw_m (T &&& (0 ^^^ (-1))) b && !decide ((ms b &&& sx) = 0)) (n := i) (bw_lnF2 c_7), ← ea]; done) ) ls (lv_sub hl [2, 3, 4, 5, 6, 7, 1, 0] rfl)
          exact loop_40 41 0 sx (by omega) (by omega) (rfl) ls (lv_sub hl [2, 3, 4, 5, 6, 7, 1, 0] rfl)
    exact loop_28 67 (so &&& (0 ^^^ (-1))) 1 (bw_Rc_0 rfl) (bw_Mo_0) ls (lv_sub hl [3, 4, 5, 2, 1, 0] rfl)
set_option maxHeartbeats 4000000 in
set_option maxRecDepth 100000 in
theorem m_leadToS (l : Launch) (dC : Nat → ClassId) (dI : Nat → Nat → Nat) (y m1 m2 s1 v1 h1 d1 e1 : Nat) (cI cL : ClassId) (tw : Int32) (T : Int64) (mn tg : Nat → Int32) (kn : Int32) (ms : Nat → Int64) (re gd en : Int64) (ov be : Nat → Int64) (he : Int64) (rd ed : Nat → Int64) (pl : Int32) (so : Int64) (d : Nat) (hd : d < 40) : Met l yM_leadTo wsM_leadTo ({ frames := 1, cells := 0, slots := 0, locals := 22 } : Room) (bw_Ro (dC, dI) [(cI, .int), (cL, .long)] [(y, .inr (3, [.int tw, .long T, .ref m1, .ref m2, .int kn, .ref s1, .long re, .long gd, .long en, .ref v1, .ref h1, .long he, .ref d1, .ref e1, .int pl])), (m1, .inl (cI, 40, .inl mn)), (m2, .inl (cI, 160, .inl tg)), (s1, .inl (cL, 40, .inr (.inl ms))), (v1, .inl (cL, 40, .inr (.inl ov))), (h1, .inl (cL, 40, .inr (.inl be))), (d1, .inl (cL, 40, .inr (.inl rd))), (e1, .inl (cL, 40, .inr (.inl ed)))] [.ref y, .long so, .int (nI d)]) (vp_Sl (fun r => bw_Lp (bw_ln T ms (bw_nt (some d))) (so &&& (bw_nt (some d) ^^^ (-1))) r)) 0 0 (fun _ => False) := by
  refine Met.ofW (cc := cM_leadTo) (maxL := 12) (ret := (some .long)) (by decide) rfl ?_
  intro p e s m args below meth c s₁ B hml hv
  obtain ⟨rfl, hP, hK, hN⟩ := hv
  have hx := B.exec
  have hb := B.bytes
  have hr := B.returns
  have hts := atoms_spec (ws := wsM_leadTo) B.pre
  have hT : ∀ w ∈ bwB, w.before _ s = true := fun w h => hts w (List.mem_cons_of_mem _ h)
  have hown : s.vm.findClass RM = some m.cls := findClass_of_methodNamed B.named
  have hlocks := B.notSynchronized
  have hl := lv_entry ([.ref y, .long so, .int (nI d)]) (n := 12) (Nat.le_of_ble_eq_true rfl)
  rw [lg_entry_eq]
  generalize (lg_sl ([.ref y, .long so, .int (nI d)]) ++ List.replicate (12 - (lg_sl ([.ref y, .long so, .int (nI d)])).length) Slot.unset).toArray = ls at hl ⊢
  have hl : lv_has ls 12 [(0, .ref y), (1, .long so), (3, .int (nI d))] := hl
  refine lv_iload_n hx hb dM_leadTo_0 rfl (lv_at hl 2 rfl) ?_
  refine lv_iconst (v := -1) hx hb dM_leadTo_1 (by decide) ?_
  refine lv_icmp_ne (tgt := 9) hx hb dM_leadTo_2 (by decide) (fun c_1 => ?_) (fun c_1 => ?_)
  · skip
    refine lv_iload_n hx hb dM_leadTo_9 rfl (lv_at hl 2 rfl) ?_
    refine vp_callSl (W.runS (As := [.int (nI d)]) (rest := []) ⟨hx, hb, hml, hown, hT⟩ (m_bit l d) (cwS 1 hT g_M_48 rfl rfl rfl (by decide +kernel) ⟨Nat.le_of_ble_eq_true rfl, Nat.le_of_ble_eq_true rfl⟩) preEq rfl rfl hl.1 rfl (lv_room (Nat.le_of_ble_eq_true rfl)) dM_leadTo_10 ⟨Nat.le_of_ble_eq_true rfl, Nat.le_of_ble_eq_true rfl⟩) (fun r_2 hr_2 => ?_)
    rw [hr_2]; clear hr_2
    refine lv_lstore (lv' := [(4, .long (bw_b d)), (0, .ref y), (1, .long so), (3, .int (nI d))]) hx hb dM_leadTo_13 hl (by decide) rfl (fun ls hl => ?_)
    refine lv_lload_n hx hb dM_leadTo_15 rfl (lv_at hl 2 rfl) ?_
    refine lv_lload hx hb dM_leadTo_16 (lv_at hl 0 rfl) ?_
    refine lv_ldc2 (v := (-1)) hx hb hown (hT _ hw_409) dM_leadTo_18 ?_
    refine lv_lxor hx hb dM_leadTo_21 ?_
    refine lv_land hx hb dM_leadTo_22 ?_
    refine lv_lstore (lv' := [(6, .long (so &&& ((bw_b d) ^^^ (-1)))), (4, .long (bw_b d)), (0, .ref y), (1, .long so), (3, .int (nI d))]) hx hb dM_leadTo_23 hl (by decide) rfl (fun ls hl => ?_)
    refine lv_iconst (v := 1) hx hb dM_leadTo_25 (by decide) ?_
    refine lv_istore (lv' := [(8, .int 1), (6, .long (so &&& ((bw_b d) ^^^ (-1)))), (4, .long (bw_b d)), (0, .ref y), (1, .long so), (3, .int (nI d))]) hx hb dM_leadTo_26 hl (by decide) rfl (fun ls hl => ?_)
    have loop_28 : ∀ (n_28 : Nat) (sx : Int64) (mo : Int32), (bw_Rc (bw_ln T ms (bw_nt (some d))) (so &&& (bw_nt (some d) ^^^ (-1))) sx) → (bw_Mo (bw_ln T ms (bw_nt (some d))) sx mo n_28) → ∀ (ls : Array Slot), lv_has ls 12 [(0, .ref y), (1, .long so), (3, .int (nI d)), (4, .long (bw_b d)), (6, .long sx), (8, .int mo)] → W p l e (headSpec wsM_leadTo ({ frames := 1, cells := 0, slots := 0, locals := 22 } : Room)).room s m ([.ref y, .long so, .int (nI d)] : List Value).toArray below meth c s.heap [] 0 0 (MQ below (vp_Sl (fun r => bw_Lp (bw_ln T ms (bw_nt (some d))) (so &&& (bw_nt (some d) ^^^ (-1))) r)) ([.ref y, .long so, .int (nI d)] : List Value).toArray s 0 0 (fun _ => False)) (F0 m 28 ls []) := by
      intro n_28
      induction n_28 with
      | zero => intro sx mo hr9 hm9; exact (bw_Mo_z hm9).elim
      | succ n_28 ih_28 =>
        intro sx mo hr9 hm9 ls hl
        refine lv_iload hx hb dM_leadTo_28 (lv_at hl 5 rfl) ?_
        refine lv_if_eq (tgt := 119) hx hb dM_leadTo_30 (by decide) (fun c_3 => ?_) (fun c_3 => ?_)
        · skip
          refine lv_lload hx hb dM_leadTo_119 (lv_at hl 4 rfl) ?_
          exact W.lret (v := sx) hx hb hr (fun t9 ht9 hW9 => ⟨_, rfl, bw_Mo_x hr9 hm9 c_3, ht9⟩) (fun q hq => nomatch hq) dM_leadTo_121
        · skip
          refine lv_lload hx hb dM_leadTo_33 (lv_at hl 4 rfl) ?_
          refine lv_lstore (lv' := [(9, .long sx), (0, .ref y), (1, .long so), (3, .int (nI d)), (4, .long (bw_b d)), (6, .long sx), (8, .int mo)]) hx hb dM_leadTo_35 hl (by decide) rfl (fun ls hl => ?_)
          refine lv_iconst (v := nI 0) hx hb dM_leadTo_37 (by decide) ?_
          refine lv_istore (lv' := [(11, .int (nI 0)), (9, .long sx), (0, .ref y), (1, .long so), (3, .int (nI d)), (4, .long (bw_b d)), (6, .long sx), (8, .int mo)]) hx hb dM_leadTo_38 hl (by decide) rfl (fun ls hl => ?_)
          have loop_40 : ∀ (n_40 : Nat) (i : Nat) (acc : Int64), (i ≤ 40) → (40 < i + n_40) → (acc = bw_F (fun b => bw_m (T &&& (bw_b d ^^^ (-1))) b && !decide ((ms b &&& sx) = 0)) bw_b sx i) → ∀ (ls : Array Slot), lv_has ls 12 [(0, .ref y), (1, .long so), (3, .int (nI d)), (4, .long (bw_b d)), (6, .long sx), (8, .int mo), (9, .long acc), (11, .int (nI i))] → W p l e (headSpec wsM_leadTo ({ frames := 1, cells := 0, slots := 0, locals := 22 } : Room)).room s m ([.ref y, .long so, .int (nI d)] : List Value).toArray below meth c s.heap [] 0 0 (MQ below (vp_Sl (fun r => bw_Lp (bw_ln T ms (bw_nt (some d))) (so &&& (bw_nt (some d) ^^^ (-1))) r)) ([.ref y, .long so, .int (nI d)] : List Value).toArray s 0 0 (fun _ => False)) (F0 m 40 ls []) := by
            intro n_40
            induction n_40 with
            | zero => intro i acc hii hfi ea; exfalso; omega
            | succ n_40 ih_40 =>
              intro i acc hii hfi ea ls hl
              refine lv_iload hx hb dM_leadTo_40 (lv_at hl 7 rfl) ?_
              refine lv_bipush (v := nI 40) hx hb dM_leadTo_42 (by decide) ?_
              refine lv_icmp_ge (tgt := 97) hx hb dM_leadTo_44 (by decide) (fun c_4 => ?_) (fun c_4 => ?_)
              · skip
                have c_4 : 40 ≤ i := (nI_leI (a := 40) (b := i) (by omega) (by omega)).mp c_4
                have e40 : i = 40 := by omega
                have e_acc : acc = (bw_ln T ms (bw_nt (some d))) sx := by rw [ea, e40]; rfl
                refine lv_lload hx hb dM_leadTo_97 (lv_at hl 6 rfl) ?_
                refine lv_lload hx hb dM_leadTo_99 (lv_at hl 4 rfl) ?_
                refine W.lcmp hx hb dM_leadTo_101 ?_
                refine lv_if_eq (tgt := 109) hx hb dM_leadTo_102 (by decide) (fun c_5 => ?_) (fun c_5 => ?_)
                · skip
                  have c_5 := bw_cmp0.mp c_5
                  refine lv_iconst (v := 0) hx hb dM_leadTo_109 (by decide) ?_
                  refine lv_istore (lv' := [(8, .int 0), (0, .ref y), (1, .long so), (3, .int (nI d)), (4, .long (bw_b d)), (6, .long sx), (9, .long acc), (11, .int (nI i))]) hx hb dM_leadTo_110 hl (by decide) rfl (fun ls hl => ?_)
                  refine lv_lload hx hb dM_leadTo_112 (lv_at hl 6 rfl) ?_
                  refine lv_lstore (lv' := [(6, .long acc), (8, .int 0), (0, .ref y), (1, .long so), (3, .int (nI d)), (4, .long (bw_b d)), (9, .long acc), (11, .int (nI i))]) hx hb dM_leadTo_114 hl (by decide) rfl (fun ls hl => ?_)
                  refine lv_goto (tgt := 28) hx hb dM_leadTo_116 (by decide) ?_
                  exact ih_28 acc 0 (bw_Rc_s hr9 e_acc) (bw_Mo_f hm9 c_3 e_acc c_5) ls (lv_sub hl [2, 3, 4, 5, 0, 1] rfl)
                · skip
                  have c_5 := fun z => c_5 (bw_cmp0.mpr z)
                  refine lv_iconst (v := 1) hx hb dM_leadTo_105 (by decide) ?_
                  refine lv_goto (tgt := 110) hx hb dM_leadTo_106 (by decide) ?_
                  refine lv_istore (lv' := [(8, .int 1), (0, .ref y), (1, .long so), (3, .int (nI d)), (4, .long (bw_b d)), (6, .long sx), (9, .long acc), (11, .int (nI i))]) hx hb dM_leadTo_110 hl (by decide) rfl (fun ls hl => ?_)
                  refine lv_lload hx hb dM_leadTo_112 (lv_at hl 6 rfl) ?_
                  refine lv_lstore (lv' := [(6, .long acc), (8, .int 1), (0, .ref y), (1, .long so), (3, .int (nI d)), (4, .long (bw_b d)), (9, .long acc), (11, .int (nI i))]) hx hb dM_leadTo_114 hl (by decide) rfl (fun ls hl => ?_)
                  refine lv_goto (tgt := 28) hx hb dM_leadTo_116 (by decide) ?_
                  exact ih_28 acc 1 (bw_Rc_s hr9 e_acc) (bw_Mo_t hm9 c_3 bw_ln_up e_acc c_5) ls (lv_sub hl [2, 3, 4, 5, 0, 1] rfl)
              · skip
                have c_4 : ¬ 40 ≤ i := fun z => c_4 ((nI_leI (a := 40) (b := i) (by omega) (by omega)).mpr z)
                refine lv_aload_n hx hb dM_leadTo_47 rfl (lv_at hl 0 rfl) ?_
                refine va_get (D := (dC, dI)) (ci := 3) (v := .long T) (C := RM) (T := TM) (N := 15) hx hb hT inM hown hK hP 0 rfl rfl 1 (by decide) (hT _ hw_339) (fun _ h9 => h9) rfl dM_leadTo_48 ?_
                refine lv_lload hx hb dM_leadTo_51 (lv_at hl 3 rfl) ?_
                refine lv_ldc2 (v := (-1)) hx hb hown (hT _ hw_409) dM_leadTo_53 ?_
                refine lv_lxor hx hb dM_leadTo_56 ?_
                refine lv_land hx hb dM_leadTo_57 ?_
                refine lv_iload hx hb dM_leadTo_58 (lv_at hl 7 rfl) ?_
                refine vp_callSi (W.runS (As := [.long (T &&& ((bw_b d) ^^^ (-1))), .int (nI i)]) (rest := []) ⟨hx, hb, hml, hown, hT⟩ (m_is l (T &&& ((bw_b d) ^^^ (-1))) i (by omega)) (cwS 2 hT g_M_36 rfl rfl rfl (by decide +kernel) ⟨Nat.le_of_ble_eq_true rfl, Nat.le_of_ble_eq_true rfl⟩) preEq rfl rfl hl.1 rfl (lv_room (Nat.le_of_ble_eq_true rfl)) dM_leadTo_60 ⟨Nat.le_of_ble_eq_true rfl, Nat.le_of_ble_eq_true rfl⟩) (fun r_6 hr_6 => ?_)
                rw [hr_6]; clear hr_6
                refine lv_if_eq (tgt := 91) hx hb dM_leadTo_63 (by decide) (fun c_7 => ?_) (fun c_7 => ?_)
                · skip
                  have c_7 := bw_i0.mp c_7
                  refine lv_iinc (v := nI (i + 1)) (lv' := [(11, .int (nI (i + 1))), (0, .ref y), (1, .long so), (3, .int (nI d)), (4, .long (bw_b d)), (6, .long sx), (8, .int mo), (9, .long acc)]) hx hb dM_leadTo_91 hl (k := 7) rfl (nI_1 _) (by decide) rfl (fun ls hl => ?_)
                  refine lv_goto (tgt := 40) hx hb dM_leadTo_94 (by decide) ?_
                  exact ih_40 (i + 1) acc (by omega) (by omega) (by first | (rw [bw_F_t (c := fun b => bw_m (T &&& (bw_b d ^^^ (-1))) b && !decide ((ms b &&& sx) = 0)) (n := i) (bw_lnT c_4 c_7), ← ea]; done) | (rw [bw_F_f (c := fun b => bw_m (T &&& (bw_b d ^^^ (-1))) b && !decide ((ms b &&& sx) = 0)) (n := i) (bw_lnF1 c_7), ← ea]; done) | (rw [bw_F_f (c := fun b => bw_m (T &&& (bw_b d ^^^ (-1))) b && !decide ((ms b &&& sx) = 0)) (n := i) (bw_lnF2 c_7), ← ea]; done) ) ls (lv_sub hl [1, 2, 3, 4, 5, 6, 7, 0] rfl)
                · skip
                  have c_7 := bw_in0 c_7
                  refine lv_aload_n hx hb dM_leadTo_66 rfl (lv_at hl 0 rfl) ?_
                  refine va_get (D := (dC, dI)) (ci := 3) (v := .ref s1) (C := RM) (T := TM) (N := 15) hx hb hT inM hown hK hP 0 rfl rfl 5 (by decide) (hT _ hw_343) (fun _ h9 => h9) rfl dM_leadTo_67 ?_
                  refine lv_iload hx hb dM_leadTo_70 (lv_at hl 7 rfl) ?_
                  refine bw_lald hx hb hK hP 3 1 (k := i) rfl rfl (by omega) (by decide) dM_leadTo_72 ?_
                  refine lv_lload hx hb dM_leadTo_73 (lv_at hl 4 rfl) ?_
                  refine lv_land hx hb dM_leadTo_75 ?_
                  refine lv_lconst (v := 0) hx hb dM_leadTo_76 (by decide) ?_
                  refine W.lcmp hx hb dM_leadTo_77 ?_
                  refine lv_if_eq (tgt := 91) hx hb dM_leadTo_78 (by decide) (fun c_8 => ?_) (fun c_8 => ?_)
                  · skip
                    have c_8 := bw_cmp0.mp c_8
                    refine lv_iinc (v := nI (i + 1)) (lv' := [(11, .int (nI (i + 1))), (0, .ref y), (1, .long so), (3, .int (nI d)), (4, .long (bw_b d)), (6, .long sx), (8, .int mo), (9, .long acc)]) hx hb dM_leadTo_91 hl (k := 7) rfl (nI_1 _) (by decide) rfl (fun ls hl => ?_)
                    refine lv_goto (tgt := 40) hx hb dM_leadTo_94 (by decide) ?_
                    exact ih_40 (i + 1) acc (by omega) (by omega) (by first | (rw [bw_F_t (c := fun b => bw_m (T &&& (bw_b d ^^^ (-1))) b && !decide ((ms b &&& sx) = 0)) (n := i) (bw_lnT c_7 c_8), ← ea]; done) | (rw [bw_F_f (c := fun b => bw_m (T &&& (bw_b d ^^^ (-1))) b && !decide ((ms b &&& sx) = 0)) (n := i) (bw_lnF1 c_8), ← ea]; done) | (rw [bw_F_f (c := fun b => bw_m (T &&& (bw_b d ^^^ (-1))) b && !decide ((ms b &&& sx) = 0)) (n := i) (bw_lnF2 c_8), ← ea]; done) ) ls (lv_sub hl [1, 2, 3, 4, 5, 6, 7, 0] rfl)
                  · skip
                    have c_8 := fun z => c_8 (bw_cmp0.mpr z)
                    refine lv_lload hx hb dM_leadTo_81 (lv_at hl 6 rfl) ?_
                    refine lv_iload hx hb dM_leadTo_83 (lv_at hl 7 rfl) ?_
                    refine vp_callSl (W.runS (As := [.int (nI i)]) (rest := [.long acc]) ⟨hx, hb, hml, hown, hT⟩ (m_bit l i) (cwS 1 hT g_M_48 rfl rfl rfl (by decide +kernel) ⟨Nat.le_of_ble_eq_true rfl, Nat.le_of_ble_eq_true rfl⟩) preEq rfl rfl hl.1 rfl (lv_room (Nat.le_of_ble_eq_true rfl)) dM_leadTo_85 ⟨Nat.le_of_ble_eq_true rfl, Nat.le_of_ble_eq_true rfl⟩) (fun r_9 hr_9 => ?_)
                    rw [hr_9]; clear hr_9
                    refine lv_lor hx hb dM_leadTo_88 ?_
                    refine lv_lstore (lv' := [(9, .long (acc ||| (bw_b i))), (0, .ref y), (1, .long so), (3, .int (nI d)), (4, .long (bw_b d)), (6, .long sx), (8, .int mo), (11, .int (nI i))]) hx hb dM_leadTo_89 hl (by decide) rfl (fun ls hl => ?_)
                    refine lv_iinc (v := nI (i + 1)) (lv' := [(11, .int (nI (i + 1))), (9, .long (acc ||| (bw_b i))), (0, .ref y), (1, .long so), (3, .int (nI d)), (4, .long (bw_b d)), (6, .long sx), (8, .int mo)]) hx hb dM_leadTo_91 hl (k := 7) rfl (nI_1 _) (by decide) rfl (fun ls hl => ?_)
                    refine lv_goto (tgt := 40) hx hb dM_leadTo_94 (by decide) ?_
                    exact ih_40 (i + 1) (acc ||| (bw_b i)) (by omega) (by omega) (by first | (rw [bw_F_t (c := fun b => bw_m (T &&& (bw_b d ^^^ (-1))) b && !decide ((ms b &&& sx) = 0)) (n := i) (bw_lnT c_7 c_8), ← ea]; done) | (rw [bw_F_f (c := fun b => bw_m (T &&& (bw_b d ^^^ (-1))) b && !decide ((ms b &&& sx) = 0)) (n := i) (bw_lnF1 c_8), ← ea]; done) | (rw [bw_F_f (c := fun b => bw_m (T &&& (bw_b d ^^^ (-1))) b && !decide ((ms b &&& sx) = 0)) (n := i) (bw_lnF2 c_8), ← ea]; done) ) ls (lv_sub hl [2, 3, 4, 5, 6, 7, 1, 0] rfl)
          exact loop_40 41 0 sx (by omega) (by omega) (rfl) ls (lv_sub hl [2, 3, 4, 5, 6, 7, 1, 0] rfl)
    exact loop_28 67 (so &&& ((bw_b d) ^^^ (-1))) 1 (bw_Rc_0 rfl) (bw_Mo_0) ls (lv_sub hl [3, 4, 5, 2, 1, 0] rfl)
  · skip
    exact absurd c_1 (bw_nm1 (by omega))
