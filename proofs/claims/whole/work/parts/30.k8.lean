set_option maxHeartbeats 4000000 in
set_option maxRecDepth 100000 in
theorem m_hangsOn (l : Launch) (dC : Nat → ClassId) (dI : Nat → Nat → Nat) (y m1 m2 s1 v1 h1 d1 e1 : Nat) (cI cL : ClassId) (tw : Int32) (T : Int64) (mn tg : Nat → Int32) (kn : Int32) (ms : Nat → Int64) (re gd en : Int64) (ov be : Nat → Int64) (he : Int64) (rd ed : Nat → Int64) (pl : Int32) (k : Nat) (hk : k < 40) : Met l yM_hangsOn wsM_hangsOn ({ frames := 1, cells := 0, slots := 0, locals := 22 } : Room) (bw_Ro (dC, dI) [(cI, .int), (cL, .long)] [(y, .inr (3, [.int tw, .long T, .ref m1, .ref m2, .int kn, .ref s1, .long re, .long gd, .long en, .ref v1, .ref h1, .long he, .ref d1, .ref e1, .int pl])), (m1, .inl (cI, 40, .inl mn)), (m2, .inl (cI, 160, .inl tg)), (s1, .inl (cL, 40, .inr (.inl ms))), (v1, .inl (cL, 40, .inr (.inl ov))), (h1, .inl (cL, 40, .inr (.inl be))), (d1, .inl (cL, 40, .inr (.inl rd))), (e1, .inl (cL, 40, .inr (.inl ed)))] [.ref y, .int (nI k)]) (vp_Sl (fun r => bw_haS ms be gd k r)) 0 0 (fun _ => False) := by
  refine Met.ofW (cc := cM_hangsOn) (maxL := 6) (ret := (some .long)) (by decide) rfl ?_
  intro p e s m args below meth c s₁ B hml hv
  obtain ⟨rfl, hP, hK, hN⟩ := hv
  have hx := B.exec
  have hb := B.bytes
  have hr := B.returns
  have hts := atoms_spec (ws := wsM_hangsOn) B.pre
  have hT : ∀ w ∈ bwB, w.before _ s = true := fun w h => hts w (List.mem_cons_of_mem _ h)
  have hown : s.vm.findClass RM = some m.cls := findClass_of_methodNamed B.named
  have hlocks := B.notSynchronized
  have hl := lv_entry ([.ref y, .int (nI k)]) (n := 6) (Nat.le_of_ble_eq_true rfl)
  rw [lg_entry_eq]
  generalize (lg_sl ([.ref y, .int (nI k)]) ++ List.replicate (6 - (lg_sl ([.ref y, .int (nI k)])).length) Slot.unset).toArray = ls at hl ⊢
  have hl : lv_has ls 6 [(0, .ref y), (1, .int (nI k))] := hl
  refine lv_lconst (v := 0) hx hb dM_hangsOn_0 (by decide) ?_
  refine lv_lstore_n (lv' := [(2, .long 0), (0, .ref y), (1, .int (nI k))]) hx hb dM_hangsOn_1 rfl hl (by decide) rfl (fun ls hl => ?_)
  refine lv_iconst (v := nI 0) hx hb dM_hangsOn_2 (by decide) ?_
  refine lv_istore (lv' := [(4, .int (nI 0)), (2, .long 0), (0, .ref y), (1, .int (nI k))]) hx hb dM_hangsOn_3 hl (by decide) rfl (fun ls hl => ?_)
  have loop_5 : ∀ (n_5 : Nat) (i : Nat) (acc : Int64), (i ≤ 40) → (40 < i + n_5) → (bw_hO ms be gd k i acc) → ∀ (ls : Array Slot), lv_has ls 6 [(0, .ref y), (1, .int (nI k)), (2, .long acc), (4, .int (nI i))] → W p l e (headSpec wsM_hangsOn ({ frames := 1, cells := 0, slots := 0, locals := 22 } : Room)).room s m ([.ref y, .int (nI k)] : List Value).toArray below meth c s.heap [] 0 0 (MQ below (vp_Sl (fun r => bw_haS ms be gd k r)) ([.ref y, .int (nI k)] : List Value).toArray s 0 0 (fun _ => False)) (F0 m 5 ls []) := by
    intro n_5
    induction n_5 with
    | zero => intro i acc hii hfi hO; exfalso; omega
    | succ n_5 ih_5 =>
      intro i acc hii hfi hO ls hl
      refine lv_iload hx hb dM_hangsOn_5 (lv_at hl 3 rfl) ?_
      refine lv_bipush (v := nI 40) hx hb dM_hangsOn_7 (by decide) ?_
      refine lv_icmp_ge (tgt := 106) hx hb dM_hangsOn_9 (by decide) (fun c_1 => ?_) (fun c_1 => ?_)
      · skip
        have c_1 : 40 ≤ i := (nI_leI (a := 40) (b := i) (by omega) (by omega)).mp c_1
        refine lv_lload_n hx hb dM_hangsOn_106 rfl (lv_at hl 2 rfl) ?_
        exact W.lret (v := acc) hx hb hr (fun t9 ht9 hW9 => ⟨_, rfl, (bw_hO_e hO (by omega)), ht9⟩) (fun q hq => nomatch hq) dM_hangsOn_107
      · skip
        have c_1 : ¬ 40 ≤ i := fun z => c_1 ((nI_leI (a := 40) (b := i) (by omega) (by omega)).mpr z)
        refine lv_aload_n hx hb dM_hangsOn_12 rfl (lv_at hl 0 rfl) ?_
        refine va_get (D := (dC, dI)) (ci := 3) (v := .long gd) (C := RM) (T := TM) (N := 15) hx hb hT inM hown hK hP 0 rfl rfl 7 (by decide) (hT _ hw_345) (fun _ h9 => h9) rfl dM_hangsOn_13 ?_
        refine lv_iload hx hb dM_hangsOn_16 (lv_at hl 3 rfl) ?_
        refine vp_callSi (W.runS (As := [.long gd, .int (nI i)]) (rest := []) ⟨hx, hb, hml, hown, hT⟩ (m_is l gd i (by omega)) (cwS 2 hT g_M_36 rfl rfl rfl (by decide +kernel) ⟨Nat.le_of_ble_eq_true rfl, Nat.le_of_ble_eq_true rfl⟩) preEq rfl rfl hl.1 rfl (lv_room (Nat.le_of_ble_eq_true rfl)) dM_hangsOn_18 ⟨Nat.le_of_ble_eq_true rfl, Nat.le_of_ble_eq_true rfl⟩) (fun r_2 hr_2 => ?_)
        rw [hr_2]; clear hr_2
        refine lv_if_eq (tgt := 100) hx hb dM_hangsOn_21 (by decide) (fun c_3 => ?_) (fun c_3 => ?_)
        · skip
          have c_3 := bw_i0.mp c_3
          refine lv_iinc (v := nI (i + 1)) (lv' := [(4, .int (nI (i + 1))), (0, .ref y), (1, .int (nI k)), (2, .long acc)]) hx hb dM_hangsOn_100 hl (k := 3) rfl (nI_1 _) (by decide) rfl (fun ls hl => ?_)
          refine lv_goto (tgt := 5) hx hb dM_hangsOn_103 (by decide) ?_
          exact ih_5 (i + 1) acc (by omega) (by omega) (by first | exact bw_hO_1 hO c_3 | exact bw_hO_2 hO c_1 c_3 | exact bw_hO_s hO hI (by omega) hr (Or.inl c_1) | exact bw_hO_s hO hI (by omega) hr (Or.inr c_1)) ls (lv_sub hl [1, 2, 3, 0] rfl)
        · skip
          have c_3 := bw_in0 c_3
          refine lv_aload_n hx hb dM_hangsOn_24 rfl (lv_at hl 0 rfl) ?_
          refine va_get (D := (dC, dI)) (ci := 3) (v := .ref h1) (C := RM) (T := TM) (N := 15) hx hb hT inM hown hK hP 0 rfl rfl 10 (by decide) (hT _ hw_348) (fun _ h9 => h9) rfl dM_hangsOn_25 ?_
          refine lv_iload hx hb dM_hangsOn_28 (lv_at hl 3 rfl) ?_
          refine bw_lald hx hb hK hP 5 1 (k := i) rfl rfl (by omega) (by decide) dM_hangsOn_30 ?_
          refine lv_iload_n hx hb dM_hangsOn_31 rfl (lv_at hl 1 rfl) ?_
          refine vp_callSi (W.runS (As := [.long (be i), .int (nI k)]) (rest := []) ⟨hx, hb, hml, hown, hT⟩ (m_is l (be i) k (by omega)) (cwS 2 hT g_M_36 rfl rfl rfl (by decide +kernel) ⟨Nat.le_of_ble_eq_true rfl, Nat.le_of_ble_eq_true rfl⟩) preEq rfl rfl hl.1 rfl (lv_room (Nat.le_of_ble_eq_true rfl)) dM_hangsOn_32 ⟨Nat.le_of_ble_eq_true rfl, Nat.le_of_ble_eq_true rfl⟩) (fun r_4 hr_4 => ?_)
          rw [hr_4]; clear hr_4
          refine lv_if_eq (tgt := 47) hx hb dM_hangsOn_35 (by decide) (fun c_5 => ?_) (fun c_5 => ?_)
          · skip
            have c_5 := bw_i0.mp c_5
            refine lv_iconst (v := nI 0) hx hb dM_hangsOn_47 (by decide) ?_
            refine lv_istore (lv' := [(5, .int (nI 0)), (0, .ref y), (1, .int (nI k)), (2, .long acc), (4, .int (nI i))]) hx hb dM_hangsOn_48 hl (by decide) rfl (fun ls hl => ?_)
            have loop_50 : ∀ (n_50 : Nat) (j : Nat) (ac2 : Int64), (j ≤ 40) → (40 < j + n_50) → (bw_hI ms be k i j acc ac2) → ∀ (ls : Array Slot), lv_has ls 6 [(0, .ref y), (1, .int (nI k)), (2, .long ac2), (4, .int (nI i)), (5, .int (nI j))] → W p l e (headSpec wsM_hangsOn ({ frames := 1, cells := 0, slots := 0, locals := 22 } : Room)).room s m ([.ref y, .int (nI k)] : List Value).toArray below meth c s.heap [] 0 0 (MQ below (vp_Sl (fun r => bw_haS ms be gd k r)) ([.ref y, .int (nI k)] : List Value).toArray s 0 0 (fun _ => False)) (F0 m 50 ls []) := by
              intro n_50
              induction n_50 with
              | zero => intro j ac2 hij hfj hI; exfalso; omega
              | succ n_50 ih_50 =>
                intro j ac2 hij hfj hI ls hl
                refine lv_iload hx hb dM_hangsOn_50 (lv_at hl 4 rfl) ?_
                refine lv_bipush (v := nI 40) hx hb dM_hangsOn_52 (by decide) ?_
                refine lv_icmp_ge (tgt := 100) hx hb dM_hangsOn_54 (by decide) (fun c_6 => ?_) (fun c_6 => ?_)
                · skip
                  have c_6 : 40 ≤ j := (nI_leI (a := 40) (b := j) (by omega) (by omega)).mp c_6
                  refine lv_iinc (v := nI (i + 1)) (lv' := [(4, .int (nI (i + 1))), (0, .ref y), (1, .int (nI k)), (2, .long ac2), (5, .int (nI j))]) hx hb dM_hangsOn_100 hl (k := 3) rfl (nI_1 _) (by decide) rfl (fun ls hl => ?_)
                  refine lv_goto (tgt := 5) hx hb dM_hangsOn_103 (by decide) ?_
                  exact ih_5 (i + 1) ac2 (by omega) (by omega) (by first | exact bw_hO_1 hO c_6 | exact bw_hO_2 hO c_5 c_6 | exact bw_hO_s hO hI (by omega) c_3 (Or.inl c_5) | exact bw_hO_s hO hI (by omega) c_1 (Or.inr c_5)) ls (lv_sub hl [1, 2, 3, 0] rfl)
                · skip
                  have c_6 : ¬ 40 ≤ j := fun z => c_6 ((nI_leI (a := 40) (b := j) (by omega) (by omega)).mpr z)
                  refine lv_aload_n hx hb dM_hangsOn_57 rfl (lv_at hl 0 rfl) ?_
                  refine va_get (D := (dC, dI)) (ci := 3) (v := .ref s1) (C := RM) (T := TM) (N := 15) hx hb hT inM hown hK hP 0 rfl rfl 5 (by decide) (hT _ hw_343) (fun _ h9 => h9) rfl dM_hangsOn_58 ?_
                  refine lv_iload hx hb dM_hangsOn_61 (lv_at hl 3 rfl) ?_
                  refine bw_lald hx hb hK hP 3 1 (k := i) rfl rfl (by omega) (by decide) dM_hangsOn_63 ?_
                  refine lv_iload hx hb dM_hangsOn_64 (lv_at hl 4 rfl) ?_
                  refine vp_callSi (W.runS (As := [.long (ms i), .int (nI j)]) (rest := []) ⟨hx, hb, hml, hown, hT⟩ (m_is l (ms i) j (by omega)) (cwS 2 hT g_M_36 rfl rfl rfl (by decide +kernel) ⟨Nat.le_of_ble_eq_true rfl, Nat.le_of_ble_eq_true rfl⟩) preEq rfl rfl hl.1 rfl (lv_room (Nat.le_of_ble_eq_true rfl)) dM_hangsOn_66 ⟨Nat.le_of_ble_eq_true rfl, Nat.le_of_ble_eq_true rfl⟩) (fun r_7 hr_7 => ?_)
                  rw [hr_7]; clear hr_7
                  refine lv_if_eq (tgt := 94) hx hb dM_hangsOn_69 (by decide) (fun c_8 => ?_) (fun c_8 => ?_)
                  · skip
                    have c_8 := bw_i0.mp c_8
                    refine lv_iinc (v := nI (j + 1)) (lv' := [(5, .int (nI (j + 1))), (0, .ref y), (1, .int (nI k)), (2, .long ac2), (4, .int (nI i))]) hx hb dM_hangsOn_94 hl (k := 4) rfl (nI_1 _) (by decide) rfl (fun ls hl => ?_)
                    refine lv_goto (tgt := 50) hx hb dM_hangsOn_97 (by decide) ?_
                    exact ih_50 (j + 1) ac2 (by omega) (by omega) (by first | exact bw_hI_t (by omega) hI c_6 c_8 | exact bw_hI_f hI (Or.inl c_8) | exact bw_hI_f hI (Or.inr c_8)) ls (lv_sub hl [1, 2, 3, 4, 0] rfl)
                  · skip
                    have c_8 := bw_in0 c_8
                    refine lv_aload_n hx hb dM_hangsOn_72 rfl (lv_at hl 0 rfl) ?_
                    refine va_get (D := (dC, dI)) (ci := 3) (v := .ref h1) (C := RM) (T := TM) (N := 15) hx hb hT inM hown hK hP 0 rfl rfl 10 (by decide) (hT _ hw_348) (fun _ h9 => h9) rfl dM_hangsOn_73 ?_
                    refine lv_iload hx hb dM_hangsOn_76 (lv_at hl 4 rfl) ?_
                    refine bw_lald hx hb hK hP 5 1 (k := j) rfl rfl (by omega) (by decide) dM_hangsOn_78 ?_
                    refine lv_iload_n hx hb dM_hangsOn_79 rfl (lv_at hl 1 rfl) ?_
                    refine vp_callSi (W.runS (As := [.long (be j), .int (nI k)]) (rest := []) ⟨hx, hb, hml, hown, hT⟩ (m_is l (be j) k (by omega)) (cwS 2 hT g_M_36 rfl rfl rfl (by decide +kernel) ⟨Nat.le_of_ble_eq_true rfl, Nat.le_of_ble_eq_true rfl⟩) preEq rfl rfl hl.1 rfl (lv_room (Nat.le_of_ble_eq_true rfl)) dM_hangsOn_80 ⟨Nat.le_of_ble_eq_true rfl, Nat.le_of_ble_eq_true rfl⟩) (fun r_9 hr_9 => ?_)
                    rw [hr_9]; clear hr_9
                    refine lv_if_eq (tgt := 94) hx hb dM_hangsOn_83 (by decide) (fun c_10 => ?_) (fun c_10 => ?_)
                    · skip
                      have c_10 := bw_i0.mp c_10
                      refine lv_iinc (v := nI (j + 1)) (lv' := [(5, .int (nI (j + 1))), (0, .ref y), (1, .int (nI k)), (2, .long ac2), (4, .int (nI i))]) hx hb dM_hangsOn_94 hl (k := 4) rfl (nI_1 _) (by decide) rfl (fun ls hl => ?_)
                      refine lv_goto (tgt := 50) hx hb dM_hangsOn_97 (by decide) ?_
                      exact ih_50 (j + 1) ac2 (by omega) (by omega) (by first | exact bw_hI_t (by omega) hI c_8 c_10 | exact bw_hI_f hI (Or.inl c_10) | exact bw_hI_f hI (Or.inr c_10)) ls (lv_sub hl [1, 2, 3, 4, 0] rfl)
                    · skip
                      have c_10 := bw_in0 c_10
                      refine lv_lload_n hx hb dM_hangsOn_86 rfl (lv_at hl 2 rfl) ?_
                      refine lv_iload hx hb dM_hangsOn_87 (lv_at hl 3 rfl) ?_
                      refine vp_callSl (W.runS (As := [.int (nI i)]) (rest := [.long ac2]) ⟨hx, hb, hml, hown, hT⟩ (m_bit l i) (cwS 1 hT g_M_48 rfl rfl rfl (by decide +kernel) ⟨Nat.le_of_ble_eq_true rfl, Nat.le_of_ble_eq_true rfl⟩) preEq rfl rfl hl.1 rfl (lv_room (Nat.le_of_ble_eq_true rfl)) dM_hangsOn_89 ⟨Nat.le_of_ble_eq_true rfl, Nat.le_of_ble_eq_true rfl⟩) (fun r_11 hr_11 => ?_)
                      rw [hr_11]; clear hr_11
                      refine lv_lor hx hb dM_hangsOn_92 ?_
                      refine lv_lstore_n (lv' := [(2, .long (ac2 ||| (bw_b i))), (0, .ref y), (1, .int (nI k)), (4, .int (nI i)), (5, .int (nI j))]) hx hb dM_hangsOn_93 rfl hl (by decide) rfl (fun ls hl => ?_)
                      refine lv_iinc (v := nI (j + 1)) (lv' := [(5, .int (nI (j + 1))), (2, .long (ac2 ||| (bw_b i))), (0, .ref y), (1, .int (nI k)), (4, .int (nI i))]) hx hb dM_hangsOn_94 hl (k := 4) rfl (nI_1 _) (by decide) rfl (fun ls hl => ?_)
                      refine lv_goto (tgt := 50) hx hb dM_hangsOn_97 (by decide) ?_
                      exact ih_50 (j + 1) (ac2 ||| (bw_b i)) (by omega) (by omega) (by first | exact bw_hI_t (by omega) hI c_8 c_10 | exact bw_hI_f hI (Or.inl c_10) | exact bw_hI_f hI (Or.inr c_10)) ls (lv_sub hl [2, 3, 1, 4, 0] rfl)
            exact loop_50 41 0 acc (by omega) (by omega) (bw_hI_0) ls (lv_sub hl [1, 2, 3, 4, 0] rfl)
          · skip
            have c_5 := bw_in0 c_5
            refine lv_iload hx hb dM_hangsOn_38 (lv_at hl 3 rfl) ?_
            refine lv_iload_n hx hb dM_hangsOn_40 rfl (lv_at hl 1 rfl) ?_
            refine lv_icmp_eq (tgt := 47) hx hb dM_hangsOn_41 (by decide) (fun c_12 => ?_) (fun c_12 => ?_)
            · skip
              have c_12 : i = k := (nI_eq (a := i) (b := k) (by omega) (by omega)).mp c_12
              refine lv_iconst (v := nI 0) hx hb dM_hangsOn_47 (by decide) ?_
              refine lv_istore (lv' := [(5, .int (nI 0)), (0, .ref y), (1, .int (nI k)), (2, .long acc), (4, .int (nI i))]) hx hb dM_hangsOn_48 hl (by decide) rfl (fun ls hl => ?_)
              have loop_50 : ∀ (n_50 : Nat) (j : Nat) (ac2 : Int64), (j ≤ 40) → (40 < j + n_50) → (bw_hI ms be k i j acc ac2) → ∀ (ls : Array Slot), lv_has ls 6 [(0, .ref y), (1, .int (nI k)), (2, .long ac2), (4, .int (nI i)), (5, .int (nI j))] → W p l e (headSpec wsM_hangsOn ({ frames := 1, cells := 0, slots := 0, locals := 22 } : Room)).room s m ([.ref y, .int (nI k)] : List Value).toArray below meth c s.heap [] 0 0 (MQ below (vp_Sl (fun r => bw_haS ms be gd k r)) ([.ref y, .int (nI k)] : List Value).toArray s 0 0 (fun _ => False)) (F0 m 50 ls []) := by
                intro n_50
                induction n_50 with
                | zero => intro j ac2 hij hfj hI; exfalso; omega
                | succ n_50 ih_50 =>
                  intro j ac2 hij hfj hI ls hl
                  refine lv_iload hx hb dM_hangsOn_50 (lv_at hl 4 rfl) ?_
                  refine lv_bipush (v := nI 40) hx hb dM_hangsOn_52 (by decide) ?_
                  refine lv_icmp_ge (tgt := 100) hx hb dM_hangsOn_54 (by decide) (fun c_13 => ?_) (fun c_13 => ?_)
                  · skip
                    have c_13 : 40 ≤ j := (nI_leI (a := 40) (b := j) (by omega) (by omega)).mp c_13
                    refine lv_iinc (v := nI (i + 1)) (lv' := [(4, .int (nI (i + 1))), (0, .ref y), (1, .int (nI k)), (2, .long ac2), (5, .int (nI j))]) hx hb dM_hangsOn_100 hl (k := 3) rfl (nI_1 _) (by decide) rfl (fun ls hl => ?_)
                    refine lv_goto (tgt := 5) hx hb dM_hangsOn_103 (by decide) ?_
                    exact ih_5 (i + 1) ac2 (by omega) (by omega) (by first | exact bw_hO_1 hO c_13 | exact bw_hO_2 hO c_12 c_13 | exact bw_hO_s hO hI (by omega) c_5 (Or.inl c_12) | exact bw_hO_s hO hI (by omega) c_3 (Or.inr c_12)) ls (lv_sub hl [1, 2, 3, 0] rfl)
                  · skip
                    have c_13 : ¬ 40 ≤ j := fun z => c_13 ((nI_leI (a := 40) (b := j) (by omega) (by omega)).mpr z)
                    refine lv_aload_n hx hb dM_hangsOn_57 rfl (lv_at hl 0 rfl) ?_
                    refine va_get (D := (dC, dI)) (ci := 3) (v := .ref s1) (C := RM) (T := TM) (N := 15) hx hb hT inM hown hK hP 0 rfl rfl 5 (by decide) (hT _ hw_343) (fun _ h9 => h9) rfl dM_hangsOn_58 ?_
                    refine lv_iload hx hb dM_hangsOn_61 (lv_at hl 3 rfl) ?_
                    refine bw_lald hx hb hK hP 3 1 (k := i) rfl rfl (by omega) (by decide) dM_hangsOn_63 ?_
                    refine lv_iload hx hb dM_hangsOn_64 (lv_at hl 4 rfl) ?_
                    refine vp_callSi (W.runS (As := [.long (ms i), .int (nI j)]) (rest := []) ⟨hx, hb, hml, hown, hT⟩ (m_is l (ms i) j (by omega)) (cwS 2 hT g_M_36 rfl rfl rfl (by decide +kernel) ⟨Nat.le_of_ble_eq_true rfl, Nat.le_of_ble_eq_true rfl⟩) preEq rfl rfl hl.1 rfl (lv_room (Nat.le_of_ble_eq_true rfl)) dM_hangsOn_66 ⟨Nat.le_of_ble_eq_true rfl, Nat.le_of_ble_eq_true rfl⟩) (fun r_14 hr_14 => ?_)
                    rw [hr_14]; clear hr_14
                    refine lv_if_eq (tgt := 94) hx hb dM_hangsOn_69 (by decide) (fun c_15 => ?_) (fun c_15 => ?_)
                    · skip
                      have c_15 := bw_i0.mp c_15
                      refine lv_iinc (v := nI (j + 1)) (lv' := [(5, .int (nI (j + 1))), (0, .ref y), (1, .int (nI k)), (2, .long ac2), (4, .int (nI i))]) hx hb dM_hangsOn_94 hl (k := 4) rfl (nI_1 _) (by decide) rfl (fun ls hl => ?_)
                      refine lv_goto (tgt := 50) hx hb dM_hangsOn_97 (by decide) ?_
                      exact ih_50 (j + 1) ac2 (by omega) (by omega) (by first | exact bw_hI_t (by omega) hI c_13 c_15 | exact bw_hI_f hI (Or.inl c_15) | exact bw_hI_f hI (Or.inr c_15)) ls (lv_sub hl [1, 2, 3, 4, 0] rfl)
                    · skip
                      have c_15 := bw_in0 c_15
                      refine lv_aload_n hx hb dM_hangsOn_72 rfl (lv_at hl 0 rfl) ?_
                      refine va_get (D := (dC, dI)) (ci := 3) (v := .ref h1) (C := RM) (T := TM) (N := 15) hx hb hT inM hown hK hP 0 rfl rfl 10 (by decide) (hT _ hw_348) (fun _ h9 => h9) rfl dM_hangsOn_73 ?_
                      refine lv_iload hx hb dM_hangsOn_76 (lv_at hl 4 rfl) ?_
                      refine bw_lald hx hb hK hP 5 1 (k := j) rfl rfl (by omega) (by decide) dM_hangsOn_78 ?_
                      refine lv_iload_n hx hb dM_hangsOn_79 rfl (lv_at hl 1 rfl) ?_
                      refine vp_callSi (W.runS (As := [.long (be j), .int (nI k)]) (rest := []) ⟨hx, hb, hml, hown, hT⟩ (m_is l (be j) k (by omega)) (cwS 2 hT g_M_36 rfl rfl rfl (by decide +kernel) ⟨Nat.le_of_ble_eq_true rfl, Nat.le_of_ble_eq_true rfl⟩) preEq rfl rfl hl.1 rfl (lv_room (Nat.le_of_ble_eq_true rfl)) dM_hangsOn_80 ⟨Nat.le_of_ble_eq_true rfl, Nat.le_of_ble_eq_true rfl⟩) (fun r_16 hr_16 => ?_)
                      rw [hr_16]; clear hr_16
                      refine lv_if_eq (tgt := 94) hx hb dM_hangsOn_83 (by decide) (fun c_17 => ?_) (fun c_17 => ?_)
                      · skip
                        have c_17 := bw_i0.mp c_17
                        refine lv_iinc (v := nI (j + 1)) (lv' := [(5, .int (nI (j + 1))), (0, .ref y), (1, .int (nI k)), (2, .long ac2), (4, .int (nI i))]) hx hb dM_hangsOn_94 hl (k := 4) rfl (nI_1 _) (by decide) rfl (fun ls hl => ?_)
                        refine lv_goto (tgt := 50) hx hb dM_hangsOn_97 (by decide) ?_
                        exact ih_50 (j + 1) ac2 (by omega) (by omega) (by first | exact bw_hI_t (by omega) hI c_15 c_17 | exact bw_hI_f hI (Or.inl c_17) | exact bw_hI_f hI (Or.inr c_17)) ls (lv_sub hl [1, 2, 3, 4, 0] rfl)
                      · skip
                        have c_17 := bw_in0 c_17
                        refine lv_lload_n hx hb dM_hangsOn_86 rfl (lv_at hl 2 rfl) ?_
                        refine lv_iload hx hb dM_hangsOn_87 (lv_at hl 3 rfl) ?_
                        refine vp_callSl (W.runS (As := [.int (nI i)]) (rest := [.long ac2]) ⟨hx, hb, hml, hown, hT⟩ (m_bit l i) (cwS 1 hT g_M_48 rfl rfl rfl (by decide +kernel) ⟨Nat.le_of_ble_eq_true rfl, Nat.le_of_ble_eq_true rfl⟩) preEq rfl rfl hl.1 rfl (lv_room (Nat.le_of_ble_eq_true rfl)) dM_hangsOn_89 ⟨Nat.le_of_ble_eq_true rfl, Nat.le_of_ble_eq_true rfl⟩) (fun r_18 hr_18 => ?_)
                        rw [hr_18]; clear hr_18
                        refine lv_lor hx hb dM_hangsOn_92 ?_
                        refine lv_lstore_n (lv' := [(2, .long (ac2 ||| (bw_b i))), (0, .ref y), (1, .int (nI k)), (4, .int (nI i)), (5, .int (nI j))]) hx hb dM_hangsOn_93 rfl hl (by decide) rfl (fun ls hl => ?_)
                        refine lv_iinc (v := nI (j + 1)) (lv' := [(5, .int (nI (j + 1))), (2, .long (ac2 ||| (bw_b i))), (0, .ref y), (1, .int (nI k)), (4, .int (nI i))]) hx hb dM_hangsOn_94 hl (k := 4) rfl (nI_1 _) (by decide) rfl (fun ls hl => ?_)
                        refine lv_goto (tgt := 50) hx hb dM_hangsOn_97 (by decide) ?_
                        exact ih_50 (j + 1) (ac2 ||| (bw_b i)) (by omega) (by omega) (by first | exact bw_hI_t (by omega) hI c_15 c_17 | exact bw_hI_f hI (Or.inl c_17) | exact bw_hI_f hI (Or.inr c_17)) ls (lv_sub hl [2, 3, 1, 4, 0] rfl)
              exact loop_50 41 0 acc (by omega) (by omega) (bw_hI_0) ls (lv_sub hl [1, 2, 3, 4, 0] rfl)
            · skip
              have c_12 : ¬ i = k := fun z => c_12 ((nI_eq (a := i) (b := k) (by omega) (by omega)).mpr z)
              refine lv_goto (tgt := 100) hx hb dM_hangsOn_44 (by decide) ?_
              refine lv_iinc (v := nI (i + 1)) (lv' := [(4, .int (nI (i + 1))), (0, .ref y), (1, .int (nI k)), (2, .long acc)]) hx hb dM_hangsOn_100 hl (k := 3) rfl (nI_1 _) (by decide) rfl (fun ls hl => ?_)
              refine lv_goto (tgt := 5) hx hb dM_hangsOn_103 (by decide) ?_
              exact ih_5 (i + 1) acc (by omega) (by omega) (by first | exact bw_hO_1 hO c_12 | exact bw_hO_2 hO c_5 c_12 | exact bw_hO_s hO hI (by omega) c_3 (Or.inl c_5) | exact bw_hO_s hO hI (by omega) c_1 (Or.inr c_5)) ls (lv_sub hl [1, 2, 3, 0] rfl)
  exact loop_5 41 0 0 (by omega) (by omega) (bw_hO_0) ls (lv_sub hl [2, 3, 1, 0] rfl)
set_option maxHeartbeats 4000000 in
set_option maxRecDepth 100000 in
theorem m_block0 (l : Launch) (dC : Nat → ClassId) (dI : Nat → Nat → Nat) (y m1 m2 s1 v1 h1 d1 e1 : Nat) (cI cL : ClassId) (tw : Int32) (T : Int64) (mn tg : Nat → Int32) (kn : Int32) (ms : Nat → Int64) (re gd en : Int64) (ov be : Nat → Int64) (he : Int64) (rd ed : Nat → Int64) (pl : Int32) (b : Int32) (hb9 : ∀ k, k < 40 → ¬ b = nI k) (sz : Nat) : Met l yM_block wsM_block ({ frames := 1, cells := 0, slots := 0, locals := 20 } : Room) (bw_Wr (dC, dI) [(cI, .int), (cL, .long)] [(y, .inr (3, [.int tw, .long T, .ref m1, .ref m2, .int kn, .ref s1, .long re, .long gd, .long en, .ref v1, .ref h1, .long he, .ref d1, .ref e1, .int pl])), (m1, .inl (cI, 40, .inl mn)), (m2, .inl (cI, 160, .inl tg)), (s1, .inl (cL, 40, .inr (.inl ms))), (v1, .inl (cL, 40, .inr (.inl ov))), (h1, .inl (cL, 40, .inr (.inl be))), (d1, .inl (cL, 40, .inr (.inl rd))), (e1, .inl (cL, 40, .inr (.inl ed)))] sz [.ref y, .int b]) (va_Qi (S := Unit) (fun r _ => r = 0) (fun (_ : Unit) t => va_P (dC, dI) vwCl [(y, .inr (3, [.int 0, .long T, .ref m1, .ref m2, .int kn, .ref s1, .long re, .long gd, .long en, .ref v1, .ref h1, .long he, .ref d1, .ref e1, .int pl])), (m1, .inl (cI, 40, .inl mn)), (m2, .inl (cI, 160, .inl tg)), (s1, .inl (cL, 40, .inr (.inl ms))), (v1, .inl (cL, 40, .inr (.inl ov))), (h1, .inl (cL, 40, .inr (.inl be))), (d1, .inl (cL, 40, .inr (.inl rd))), (e1, .inl (cL, 40, .inr (.inl ed)))] t.heap ∧ va_D (va_A [(y, .inr (3, [.int tw, .long T, .ref m1, .ref m2, .int kn, .ref s1, .long re, .long gd, .long en, .ref v1, .ref h1, .long he, .ref d1, .ref e1, .int pl])), (m1, .inl (cI, 40, .inl mn)), (m2, .inl (cI, 160, .inl tg)), (s1, .inl (cL, 40, .inr (.inl ms))), (v1, .inl (cL, 40, .inr (.inl ov))), (h1, .inl (cL, 40, .inr (.inl be))), (d1, .inl (cL, 40, .inr (.inl rd))), (e1, .inl (cL, 40, .inr (.inl ed)))] sz) [(y, .inr (3, [.int 0, .long T, .ref m1, .ref m2, .int kn, .ref s1, .long re, .long gd, .long en, .ref v1, .ref h1, .long he, .ref d1, .ref e1, .int pl])), (m1, .inl (cI, 40, .inl mn)), (m2, .inl (cI, 160, .inl tg)), (s1, .inl (cL, 40, .inr (.inl ms))), (v1, .inl (cL, 40, .inr (.inl ov))), (h1, .inl (cL, 40, .inr (.inl be))), (d1, .inl (cL, 40, .inr (.inl rd))), (e1, .inl (cL, 40, .inr (.inl ed)))]) (va_A [(y, .inr (3, [.int tw, .long T, .ref m1, .ref m2, .int kn, .ref s1, .long re, .long gd, .long en, .ref v1, .ref h1, .long he, .ref d1, .ref e1, .int pl])), (m1, .inl (cI, 40, .inl mn)), (m2, .inl (cI, 160, .inl tg)), (s1, .inl (cL, 40, .inr (.inl ms))), (v1, .inl (cL, 40, .inr (.inl ov))), (h1, .inl (cL, 40, .inr (.inl be))), (d1, .inl (cL, 40, .inr (.inl rd))), (e1, .inl (cL, 40, .inr (.inl ed)))] sz)) 0 0 (va_A [(y, .inr (3, [.int tw, .long T, .ref m1, .ref m2, .int kn, .ref s1, .long re, .long gd, .long en, .ref v1, .ref h1, .long he, .ref d1, .ref e1, .int pl])), (m1, .inl (cI, 40, .inl mn)), (m2, .inl (cI, 160, .inl tg)), (s1, .inl (cL, 40, .inr (.inl ms))), (v1, .inl (cL, 40, .inr (.inl ov))), (h1, .inl (cL, 40, .inr (.inl be))), (d1, .inl (cL, 40, .inr (.inl rd))), (e1, .inl (cL, 40, .inr (.inl ed)))] sz) := by
  refine Met.ofW (cc := cM_block) (maxL := 2) (ret := (some .boolean)) (by decide) rfl ?_
  intro p e s m args below meth c s₁ B hml hv
  obtain ⟨rfl, hsz, hP, hK, hN, hD0⟩ := hv
  have hx := B.exec
  have hb := B.bytes
  have hr := B.returns
  have hts := atoms_spec (ws := wsM_block) B.pre
  have hT : ∀ w ∈ bwB, w.before _ s = true := fun w h => hts w (List.mem_cons_of_mem _ h)
  have hown : s.vm.findClass RM = some m.cls := findClass_of_methodNamed B.named
  have hlocks := B.notSynchronized
  subst hsz
  have hD := hD0.self (sz := s.heap.size)
  generalize hAe : va_A [(y, .inr (3, [.int tw, .long T, .ref m1, .ref m2, .int kn, .ref s1, .long re, .long gd, .long en, .ref v1, .ref h1, .long he, .ref d1, .ref e1, .int pl])), (m1, .inl (cI, 40, .inl mn)), (m2, .inl (cI, 160, .inl tg)), (s1, .inl (cL, 40, .inr (.inl ms))), (v1, .inl (cL, 40, .inr (.inl ov))), (h1, .inl (cL, 40, .inr (.inl be))), (d1, .inl (cL, 40, .inr (.inl rd))), (e1, .inl (cL, 40, .inr (.inl ed)))] s.heap.size = A at hD ⊢
  have hA : ∀ q : Nat, s.heap.size ≤ q → A q := fun q h => by rw [← hAe]; exact Or.inr h
  have hS : va_S A s.heap s.heap [] := va_S.rf
  have hP : va_P (dC, dI) vwCl [(y, .inr (3, [.int tw, .long T, .ref m1, .ref m2, .int kn, .ref s1, .long re, .long gd, .long en, .ref v1, .ref h1, .long he, .ref d1, .ref e1, .int pl])), (m1, .inl (cI, 40, .inl mn)), (m2, .inl (cI, 160, .inl tg)), (s1, .inl (cL, 40, .inr (.inl ms))), (v1, .inl (cL, 40, .inr (.inl ov))), (h1, .inl (cL, 40, .inr (.inl be))), (d1, .inl (cL, 40, .inr (.inl rd))), (e1, .inl (cL, 40, .inr (.inl ed)))] s.heap := hP
  have hl := lv_entry ([.ref y, .int b]) (n := 2) (Nat.le_of_ble_eq_true rfl)
  rw [lg_entry_eq]
  generalize (lg_sl ([.ref y, .int b]) ++ List.replicate (2 - (lg_sl ([.ref y, .int b])).length) Slot.unset).toArray = ls at hl ⊢
  have hl : lv_has ls 2 [(0, .ref y), (1, .int b)] := hl
  refine lv_aload_n hx hb dM_block_0 rfl (lv_at hl 0 rfl) ?_
  refine lv_iconst (v := 0) hx hb dM_block_1 (by decide) ?_
  refine va_put (D := (dC, dI)) (ci := 3) (v := .int 0) (ty := .int) (C := RM) (T := TM) (N := 15) hx hb hT inM tyM tokM nmM hown hK hP hD hS 0 rfl rfl 0 (by decide) (hT _ hw_338) (fun _ h9 => h9) rfl (by decide +kernel) rfl rfl (Nat.le_of_ble_eq_true rfl) dM_block_2 (fun H locs hP hD hS => ?_)
  have hP : va_P (dC, dI) vwCl [(y, .inr (3, [.int 0, .long T, .ref m1, .ref m2, .int kn, .ref s1, .long re, .long gd, .long en, .ref v1, .ref h1, .long he, .ref d1, .ref e1, .int pl])), (m1, .inl (cI, 40, .inl mn)), (m2, .inl (cI, 160, .inl tg)), (s1, .inl (cL, 40, .inr (.inl ms))), (v1, .inl (cL, 40, .inr (.inl ov))), (h1, .inl (cL, 40, .inr (.inl be))), (d1, .inl (cL, 40, .inr (.inl rd))), (e1, .inl (cL, 40, .inr (.inl ed)))] H := hP
  have hD : va_D A [(y, .inr (3, [.int 0, .long T, .ref m1, .ref m2, .int kn, .ref s1, .long re, .long gd, .long en, .ref v1, .ref h1, .long he, .ref d1, .ref e1, .int pl])), (m1, .inl (cI, 40, .inl mn)), (m2, .inl (cI, 160, .inl tg)), (s1, .inl (cL, 40, .inr (.inl ms))), (v1, .inl (cL, 40, .inr (.inl ov))), (h1, .inl (cL, 40, .inr (.inl be))), (d1, .inl (cL, 40, .inr (.inl rd))), (e1, .inl (cL, 40, .inr (.inl ed)))] := hD
  refine lv_iload_n hx hb dM_block_5 rfl (lv_at hl 1 rfl) ?_
  refine vp_callSi (W.runS (As := [.int b]) (rest := []) ⟨hx, hb, hml, hown, hT⟩ (m_isB0 l b hb9) (cwS 1 hT g_M_40 rfl rfl rfl (by decide +kernel) ⟨Nat.le_of_ble_eq_true rfl, Nat.le_of_ble_eq_true rfl⟩) preEq rfl rfl hl.1 rfl (lv_room (Nat.le_of_ble_eq_true rfl)) dM_block_6 ⟨Nat.le_of_ble_eq_true rfl, Nat.le_of_ble_eq_true rfl⟩) (fun r_1 hr_1 => ?_)
  rw [hr_1]; clear hr_1
  refine lv_if_eq (tgt := 23) hx hb dM_block_9 (by decide) (fun c_2 => ?_) (fun c_2 => ?_)
  · skip
    refine lv_iconst (v := 0) hx hb dM_block_23 (by decide) ?_
    have hP9 := hP.sub (ws' := [(y, .inr (3, [.int 0, .long T, .ref m1, .ref m2, .int kn, .ref s1, .long re, .long gd, .long en, .ref v1, .ref h1, .long he, .ref d1, .ref e1, .int pl])), (m1, .inl (cI, 40, .inl mn)), (m2, .inl (cI, 160, .inl tg)), (s1, .inl (cL, 40, .inr (.inl ms))), (v1, .inl (cL, 40, .inr (.inl ov))), (h1, .inl (cL, 40, .inr (.inl be))), (d1, .inl (cL, 40, .inr (.inl rd))), (e1, .inl (cL, 40, .inr (.inl ed)))]) [0, 1, 2, 3, 4, 5, 6, 7] rfl
    have hD9 := hD.sub (ws' := [(y, .inr (3, [.int 0, .long T, .ref m1, .ref m2, .int kn, .ref s1, .long re, .long gd, .long en, .ref v1, .ref h1, .long he, .ref d1, .ref e1, .int pl])), (m1, .inl (cI, 40, .inl mn)), (m2, .inl (cI, 160, .inl tg)), (s1, .inl (cL, 40, .inr (.inl ms))), (v1, .inl (cL, 40, .inr (.inl ov))), (h1, .inl (cL, 40, .inr (.inl be))), (d1, .inl (cL, 40, .inr (.inl rd))), (e1, .inl (cL, 40, .inr (.inl ed)))]) [0, 1, 2, 3, 4, 5, 6, 7] (by decide) rfl
    exact W.zret (v := 0) hx hb hr rfl (fun t9 ht9 hW9 => ⟨⟨_, (), rfl, rfl, by rw [ht9]; exact hP9, by exact hD9⟩, hS.F ht9⟩) hS.2.2 dM_block_24
  · skip
    exact absurd rfl c_2
set_option maxHeartbeats 4000000 in
set_option maxRecDepth 100000 in
theorem m_blockT (l : Launch) (dC : Nat → ClassId) (dI : Nat → Nat → Nat) (y m1 m2 s1 v1 h1 d1 e1 : Nat) (cI cL : ClassId) (tw : Int32) (T : Int64) (mn tg : Nat → Int32) (kn : Int32) (ms : Nat → Int64) (re gd en : Int64) (ov be : Nat → Int64) (he : Int64) (rd ed : Nat → Int64) (pl : Int32) (k : Nat) (hk : k < 40) (hT9 : bw_m T k = true) (sz : Nat) : Met l yM_block wsM_block ({ frames := 1, cells := 0, slots := 0, locals := 22 } : Room) (bw_Wr (dC, dI) [(cI, .int), (cL, .long)] [(y, .inr (3, [.int tw, .long T, .ref m1, .ref m2, .int kn, .ref s1, .long re, .long gd, .long en, .ref v1, .ref h1, .long he, .ref d1, .ref e1, .int pl])), (m1, .inl (cI, 40, .inl mn)), (m2, .inl (cI, 160, .inl tg)), (s1, .inl (cL, 40, .inr (.inl ms))), (v1, .inl (cL, 40, .inr (.inl ov))), (h1, .inl (cL, 40, .inr (.inl be))), (d1, .inl (cL, 40, .inr (.inl rd))), (e1, .inl (cL, 40, .inr (.inl ed)))] sz [.ref y, .int (nI k)]) (va_Qi (S := Unit) (fun r _ => r = 0) (fun (_ : Unit) t => va_P (dC, dI) vwCl [(y, .inr (3, [.int 0, .long T, .ref m1, .ref m2, .int kn, .ref s1, .long re, .long gd, .long en, .ref v1, .ref h1, .long he, .ref d1, .ref e1, .int pl])), (m1, .inl (cI, 40, .inl mn)), (m2, .inl (cI, 160, .inl tg)), (s1, .inl (cL, 40, .inr (.inl ms))), (v1, .inl (cL, 40, .inr (.inl ov))), (h1, .inl (cL, 40, .inr (.inl be))), (d1, .inl (cL, 40, .inr (.inl rd))), (e1, .inl (cL, 40, .inr (.inl ed)))] t.heap ∧ va_D (va_A [(y, .inr (3, [.int tw, .long T, .ref m1, .ref m2, .int kn, .ref s1, .long re, .long gd, .long en, .ref v1, .ref h1, .long he, .ref d1, .ref e1, .int pl])), (m1, .inl (cI, 40, .inl mn)), (m2, .inl (cI, 160, .inl tg)), (s1, .inl (cL, 40, .inr (.inl ms))), (v1, .inl (cL, 40, .inr (.inl ov))), (h1, .inl (cL, 40, .inr (.inl be))), (d1, .inl (cL, 40, .inr (.inl rd))), (e1, .inl (cL, 40, .inr (.inl ed)))] sz) [(y, .inr (3, [.int 0, .long T, .ref m1, .ref m2, .int kn, .ref s1, .long re, .long gd, .long en, .ref v1, .ref h1, .long he, .ref d1, .ref e1, .int pl])), (m1, .inl (cI, 40, .inl mn)), (m2, .inl (cI, 160, .inl tg)), (s1, .inl (cL, 40, .inr (.inl ms))), (v1, .inl (cL, 40, .inr (.inl ov))), (h1, .inl (cL, 40, .inr (.inl be))), (d1, .inl (cL, 40, .inr (.inl rd))), (e1, .inl (cL, 40, .inr (.inl ed)))]) (va_A [(y, .inr (3, [.int tw, .long T, .ref m1, .ref m2, .int kn, .ref s1, .long re, .long gd, .long en, .ref v1, .ref h1, .long he, .ref d1, .ref e1, .int pl])), (m1, .inl (cI, 40, .inl mn)), (m2, .inl (cI, 160, .inl tg)), (s1, .inl (cL, 40, .inr (.inl ms))), (v1, .inl (cL, 40, .inr (.inl ov))), (h1, .inl (cL, 40, .inr (.inl be))), (d1, .inl (cL, 40, .inr (.inl rd))), (e1, .inl (cL, 40, .inr (.inl ed)))] sz)) 0 0 (va_A [(y, .inr (3, [.int tw, .long T, .ref m1, .ref m2, .int kn, .ref s1, .long re, .long gd, .long en, .ref v1, .ref h1, .long he, .ref d1, .ref e1, .int pl])), (m1, .inl (cI, 40, .inl mn)), (m2, .inl (cI, 160, .inl tg)), (s1, .inl (cL, 40, .inr (.inl ms))), (v1, .inl (cL, 40, .inr (.inl ov))), (h1, .inl (cL, 40, .inr (.inl be))), (d1, .inl (cL, 40, .inr (.inl rd))), (e1, .inl (cL, 40, .inr (.inl ed)))] sz) := by
  refine Met.ofW (cc := cM_block) (maxL := 2) (ret := (some .boolean)) (by decide) rfl ?_
  intro p e s m args below meth c s₁ B hml hv
  obtain ⟨rfl, hsz, hP, hK, hN, hD0⟩ := hv
  have hx := B.exec
  have hb := B.bytes
  have hr := B.returns
  have hts := atoms_spec (ws := wsM_block) B.pre
  have hT : ∀ w ∈ bwB, w.before _ s = true := fun w h => hts w (List.mem_cons_of_mem _ h)
  have hown : s.vm.findClass RM = some m.cls := findClass_of_methodNamed B.named
  have hlocks := B.notSynchronized
  subst hsz
  have hD := hD0.self (sz := s.heap.size)
  generalize hAe : va_A [(y, .inr (3, [.int tw, .long T, .ref m1, .ref m2, .int kn, .ref s1, .long re, .long gd, .long en, .ref v1, .ref h1, .long he, .ref d1, .ref e1, .int pl])), (m1, .inl (cI, 40, .inl mn)), (m2, .inl (cI, 160, .inl tg)), (s1, .inl (cL, 40, .inr (.inl ms))), (v1, .inl (cL, 40, .inr (.inl ov))), (h1, .inl (cL, 40, .inr (.inl be))), (d1, .inl (cL, 40, .inr (.inl rd))), (e1, .inl (cL, 40, .inr (.inl ed)))] s.heap.size = A at hD ⊢
  have hA : ∀ q : Nat, s.heap.size ≤ q → A q := fun q h => by rw [← hAe]; exact Or.inr h
  have hS : va_S A s.heap s.heap [] := va_S.rf
  have hP : va_P (dC, dI) vwCl [(y, .inr (3, [.int tw, .long T, .ref m1, .ref m2, .int kn, .ref s1, .long re, .long gd, .long en, .ref v1, .ref h1, .long he, .ref d1, .ref e1, .int pl])), (m1, .inl (cI, 40, .inl mn)), (m2, .inl (cI, 160, .inl tg)), (s1, .inl (cL, 40, .inr (.inl ms))), (v1, .inl (cL, 40, .inr (.inl ov))), (h1, .inl (cL, 40, .inr (.inl be))), (d1, .inl (cL, 40, .inr (.inl rd))), (e1, .inl (cL, 40, .inr (.inl ed)))] s.heap := hP
  have hl := lv_entry ([.ref y, .int (nI k)]) (n := 2) (Nat.le_of_ble_eq_true rfl)
  rw [lg_entry_eq]
  generalize (lg_sl ([.ref y, .int (nI k)]) ++ List.replicate (2 - (lg_sl ([.ref y, .int (nI k)])).length) Slot.unset).toArray = ls at hl ⊢
  have hl : lv_has ls 2 [(0, .ref y), (1, .int (nI k))] := hl
  refine lv_aload_n hx hb dM_block_0 rfl (lv_at hl 0 rfl) ?_
  refine lv_iconst (v := 0) hx hb dM_block_1 (by decide) ?_
  refine va_put (D := (dC, dI)) (ci := 3) (v := .int 0) (ty := .int) (C := RM) (T := TM) (N := 15) hx hb hT inM tyM tokM nmM hown hK hP hD hS 0 rfl rfl 0 (by decide) (hT _ hw_338) (fun _ h9 => h9) rfl (by decide +kernel) rfl rfl (Nat.le_of_ble_eq_true rfl) dM_block_2 (fun H locs hP hD hS => ?_)
  have hP : va_P (dC, dI) vwCl [(y, .inr (3, [.int 0, .long T, .ref m1, .ref m2, .int kn, .ref s1, .long re, .long gd, .long en, .ref v1, .ref h1, .long he, .ref d1, .ref e1, .int pl])), (m1, .inl (cI, 40, .inl mn)), (m2, .inl (cI, 160, .inl tg)), (s1, .inl (cL, 40, .inr (.inl ms))), (v1, .inl (cL, 40, .inr (.inl ov))), (h1, .inl (cL, 40, .inr (.inl be))), (d1, .inl (cL, 40, .inr (.inl rd))), (e1, .inl (cL, 40, .inr (.inl ed)))] H := hP
  have hD : va_D A [(y, .inr (3, [.int 0, .long T, .ref m1, .ref m2, .int kn, .ref s1, .long re, .long gd, .long en, .ref v1, .ref h1, .long he, .ref d1, .ref e1, .int pl])), (m1, .inl (cI, 40, .inl mn)), (m2, .inl (cI, 160, .inl tg)), (s1, .inl (cL, 40, .inr (.inl ms))), (v1, .inl (cL, 40, .inr (.inl ov))), (h1, .inl (cL, 40, .inr (.inl be))), (d1, .inl (cL, 40, .inr (.inl rd))), (e1, .inl (cL, 40, .inr (.inl ed)))] := hD
  refine lv_iload_n hx hb dM_block_5 rfl (lv_at hl 1 rfl) ?_
  refine vp_callSi (W.runS (As := [.int (nI k)]) (rest := []) ⟨hx, hb, hml, hown, hT⟩ (m_isB1 l k (by omega)) (cwS 1 hT g_M_40 rfl rfl rfl (by decide +kernel) ⟨Nat.le_of_ble_eq_true rfl, Nat.le_of_ble_eq_true rfl⟩) preEq rfl rfl hl.1 rfl (lv_room (Nat.le_of_ble_eq_true rfl)) dM_block_6 ⟨Nat.le_of_ble_eq_true rfl, Nat.le_of_ble_eq_true rfl⟩) (fun r_1 hr_1 => ?_)
  rw [hr_1]; clear hr_1
  refine lv_if_eq (tgt := 23) hx hb dM_block_9 (by decide) (fun c_2 => ?_) (fun c_2 => ?_)
  · skip
    exact absurd c_2 (by decide)
  · skip
    refine lv_aload_n hx hb dM_block_12 rfl (lv_at hl 0 rfl) ?_
    refine va_get (D := (dC, dI)) (ci := 3) (v := .long T) (C := RM) (T := TM) (N := 15) hx hb hT inM hown hK hP 0 rfl rfl 1 (by decide) (hT _ hw_339) (fun _ h9 => h9) rfl dM_block_13 ?_
    refine lv_iload_n hx hb dM_block_16 rfl (lv_at hl 1 rfl) ?_
    refine vp_callSi (W.runS (As := [.long T, .int (nI k)]) (rest := []) ⟨hx, hb, hml, hown, hT⟩ (m_is l T k (by omega)) (cwS 2 hT g_M_36 rfl rfl rfl (by decide +kernel) ⟨Nat.le_of_ble_eq_true rfl, Nat.le_of_ble_eq_true rfl⟩) preEq rfl rfl hl.1 rfl (lv_room (Nat.le_of_ble_eq_true rfl)) dM_block_17 ⟨Nat.le_of_ble_eq_true rfl, Nat.le_of_ble_eq_true rfl⟩) (fun r_3 hr_3 => ?_)
    rw [hr_3]; clear hr_3
    refine lv_if_eq (tgt := 25) hx hb dM_block_20 (by decide) (fun c_4 => ?_) (fun c_4 => ?_)
    · skip
      have c_4 := bw_i0.mp c_4
      rw [hT9] at c_4; cases c_4
    · skip
      have c_4 := bw_in0 c_4
      refine lv_iconst (v := 0) hx hb dM_block_23 (by decide) ?_
      have hP9 := hP.sub (ws' := [(y, .inr (3, [.int 0, .long T, .ref m1, .ref m2, .int kn, .ref s1, .long re, .long gd, .long en, .ref v1, .ref h1, .long he, .ref d1, .ref e1, .int pl])), (m1, .inl (cI, 40, .inl mn)), (m2, .inl (cI, 160, .inl tg)), (s1, .inl (cL, 40, .inr (.inl ms))), (v1, .inl (cL, 40, .inr (.inl ov))), (h1, .inl (cL, 40, .inr (.inl be))), (d1, .inl (cL, 40, .inr (.inl rd))), (e1, .inl (cL, 40, .inr (.inl ed)))]) [0, 1, 2, 3, 4, 5, 6, 7] rfl
      have hD9 := hD.sub (ws' := [(y, .inr (3, [.int 0, .long T, .ref m1, .ref m2, .int kn, .ref s1, .long re, .long gd, .long en, .ref v1, .ref h1, .long he, .ref d1, .ref e1, .int pl])), (m1, .inl (cI, 40, .inl mn)), (m2, .inl (cI, 160, .inl tg)), (s1, .inl (cL, 40, .inr (.inl ms))), (v1, .inl (cL, 40, .inr (.inl ov))), (h1, .inl (cL, 40, .inr (.inl be))), (d1, .inl (cL, 40, .inr (.inl rd))), (e1, .inl (cL, 40, .inr (.inl ed)))]) [0, 1, 2, 3, 4, 5, 6, 7] (by decide) rfl
      exact W.zret (v := 0) hx hb hr rfl (fun t9 ht9 hW9 => ⟨⟨_, (), rfl, rfl, by rw [ht9]; exact hP9, by exact hD9⟩, hS.F ht9⟩) hS.2.2 dM_block_24
set_option maxHeartbeats 4000000 in
set_option maxRecDepth 100000 in
theorem m_blockF (l : Launch) (dC : Nat → ClassId) (dI : Nat → Nat → Nat) (y m1 m2 s1 v1 h1 d1 e1 : Nat) (cI cL : ClassId) (tw : Int32) (T : Int64) (mn tg : Nat → Int32) (kn : Int32) (ms : Nat → Int64) (re gd en : Int64) (ov be : Nat → Int64) (he : Int64) (rd ed : Nat → Int64) (pl : Int32) (k : Nat) (hk : k < 40) (hT9 : bw_m T k = false) (sz : Nat) : Met l yM_block wsM_block ({ frames := 1, cells := 0, slots := 0, locals := 22 } : Room) (bw_Wr (dC, dI) [(cI, .int), (cL, .long)] [(y, .inr (3, [.int tw, .long T, .ref m1, .ref m2, .int kn, .ref s1, .long re, .long gd, .long en, .ref v1, .ref h1, .long he, .ref d1, .ref e1, .int pl])), (m1, .inl (cI, 40, .inl mn)), (m2, .inl (cI, 160, .inl tg)), (s1, .inl (cL, 40, .inr (.inl ms))), (v1, .inl (cL, 40, .inr (.inl ov))), (h1, .inl (cL, 40, .inr (.inl be))), (d1, .inl (cL, 40, .inr (.inl rd))), (e1, .inl (cL, 40, .inr (.inl ed)))] sz [.ref y, .int (nI k)]) (va_Qi (S := Unit) (fun r _ => r = 1) (fun (_ : Unit) t => va_P (dC, dI) vwCl [(y, .inr (3, [.int 0, .long (T ||| bw_b k), .ref m1, .ref m2, .int 0, .ref s1, .long re, .long gd, .long en, .ref v1, .ref h1, .long he, .ref d1, .ref e1, .int pl])), (m1, .inl (cI, 40, .inl (upd mn k 0))), (m2, .inl (cI, 160, .inl tg)), (s1, .inl (cL, 40, .inr (.inl ms))), (v1, .inl (cL, 40, .inr (.inl ov))), (h1, .inl (cL, 40, .inr (.inl be))), (d1, .inl (cL, 40, .inr (.inl rd))), (e1, .inl (cL, 40, .inr (.inl ed)))] t.heap ∧ va_D (va_A [(y, .inr (3, [.int tw, .long T, .ref m1, .ref m2, .int kn, .ref s1, .long re, .long gd, .long en, .ref v1, .ref h1, .long he, .ref d1, .ref e1, .int pl])), (m1, .inl (cI, 40, .inl mn)), (m2, .inl (cI, 160, .inl tg)), (s1, .inl (cL, 40, .inr (.inl ms))), (v1, .inl (cL, 40, .inr (.inl ov))), (h1, .inl (cL, 40, .inr (.inl be))), (d1, .inl (cL, 40, .inr (.inl rd))), (e1, .inl (cL, 40, .inr (.inl ed)))] sz) [(y, .inr (3, [.int 0, .long (T ||| bw_b k), .ref m1, .ref m2, .int 0, .ref s1, .long re, .long gd, .long en, .ref v1, .ref h1, .long he, .ref d1, .ref e1, .int pl])), (m1, .inl (cI, 40, .inl (upd mn k 0))), (m2, .inl (cI, 160, .inl tg)), (s1, .inl (cL, 40, .inr (.inl ms))), (v1, .inl (cL, 40, .inr (.inl ov))), (h1, .inl (cL, 40, .inr (.inl be))), (d1, .inl (cL, 40, .inr (.inl rd))), (e1, .inl (cL, 40, .inr (.inl ed)))]) (va_A [(y, .inr (3, [.int tw, .long T, .ref m1, .ref m2, .int kn, .ref s1, .long re, .long gd, .long en, .ref v1, .ref h1, .long he, .ref d1, .ref e1, .int pl])), (m1, .inl (cI, 40, .inl mn)), (m2, .inl (cI, 160, .inl tg)), (s1, .inl (cL, 40, .inr (.inl ms))), (v1, .inl (cL, 40, .inr (.inl ov))), (h1, .inl (cL, 40, .inr (.inl be))), (d1, .inl (cL, 40, .inr (.inl rd))), (e1, .inl (cL, 40, .inr (.inl ed)))] sz)) 0 0 (va_A [(y, .inr (3, [.int tw, .long T, .ref m1, .ref m2, .int kn, .ref s1, .long re, .long gd, .long en, .ref v1, .ref h1, .long he, .ref d1, .ref e1, .int pl])), (m1, .inl (cI, 40, .inl mn)), (m2, .inl (cI, 160, .inl tg)), (s1, .inl (cL, 40, .inr (.inl ms))), (v1, .inl (cL, 40, .inr (.inl ov))), (h1, .inl (cL, 40, .inr (.inl be))), (d1, .inl (cL, 40, .inr (.inl rd))), (e1, .inl (cL, 40, .inr (.inl ed)))] sz) := by
  refine Met.ofW (cc := cM_block) (maxL := 2) (ret := (some .boolean)) (by decide) rfl ?_
  intro p e s m args below meth c s₁ B hml hv
  obtain ⟨rfl, hsz, hP, hK, hN, hD0⟩ := hv
  have hx := B.exec
  have hb := B.bytes
  have hr := B.returns
  have hts := atoms_spec (ws := wsM_block) B.pre
  have hT : ∀ w ∈ bwB, w.before _ s = true := fun w h => hts w (List.mem_cons_of_mem _ h)
  have hown : s.vm.findClass RM = some m.cls := findClass_of_methodNamed B.named
  have hlocks := B.notSynchronized
  subst hsz
  have hD := hD0.self (sz := s.heap.size)
  generalize hAe : va_A [(y, .inr (3, [.int tw, .long T, .ref m1, .ref m2, .int kn, .ref s1, .long re, .long gd, .long en, .ref v1, .ref h1, .long he, .ref d1, .ref e1, .int pl])), (m1, .inl (cI, 40, .inl mn)), (m2, .inl (cI, 160, .inl tg)), (s1, .inl (cL, 40, .inr (.inl ms))), (v1, .inl (cL, 40, .inr (.inl ov))), (h1, .inl (cL, 40, .inr (.inl be))), (d1, .inl (cL, 40, .inr (.inl rd))), (e1, .inl (cL, 40, .inr (.inl ed)))] s.heap.size = A at hD ⊢
  have hA : ∀ q : Nat, s.heap.size ≤ q → A q := fun q h => by rw [← hAe]; exact Or.inr h
  have hS : va_S A s.heap s.heap [] := va_S.rf
  have hP : va_P (dC, dI) vwCl [(y, .inr (3, [.int tw, .long T, .ref m1, .ref m2, .int kn, .ref s1, .long re, .long gd, .long en, .ref v1, .ref h1, .long he, .ref d1, .ref e1, .int pl])), (m1, .inl (cI, 40, .inl mn)), (m2, .inl (cI, 160, .inl tg)), (s1, .inl (cL, 40, .inr (.inl ms))), (v1, .inl (cL, 40, .inr (.inl ov))), (h1, .inl (cL, 40, .inr (.inl be))), (d1, .inl (cL, 40, .inr (.inl rd))), (e1, .inl (cL, 40, .inr (.inl ed)))] s.heap := hP
  have hl := lv_entry ([.ref y, .int (nI k)]) (n := 2) (Nat.le_of_ble_eq_true rfl)
  rw [lg_entry_eq]
  generalize (lg_sl ([.ref y, .int (nI k)]) ++ List.replicate (2 - (lg_sl ([.ref y, .int (nI k)])).length) Slot.unset).toArray = ls at hl ⊢
  have hl : lv_has ls 2 [(0, .ref y), (1, .int (nI k))] := hl
  refine lv_aload_n hx hb dM_block_0 rfl (lv_at hl 0 rfl) ?_
  refine lv_iconst (v := 0) hx hb dM_block_1 (by decide) ?_
  refine va_put (D := (dC, dI)) (ci := 3) (v := .int 0) (ty := .int) (C := RM) (T := TM) (N := 15) hx hb hT inM tyM tokM nmM hown hK hP hD hS 0 rfl rfl 0 (by decide) (hT _ hw_338) (fun _ h9 => h9) rfl (by decide +kernel) rfl rfl (Nat.le_of_ble_eq_true rfl) dM_block_2 (fun H locs hP hD hS => ?_)
  have hP : va_P (dC, dI) vwCl [(y, .inr (3, [.int 0, .long T, .ref m1, .ref m2, .int kn, .ref s1, .long re, .long gd, .long en, .ref v1, .ref h1, .long he, .ref d1, .ref e1, .int pl])), (m1, .inl (cI, 40, .inl mn)), (m2, .inl (cI, 160, .inl tg)), (s1, .inl (cL, 40, .inr (.inl ms))), (v1, .inl (cL, 40, .inr (.inl ov))), (h1, .inl (cL, 40, .inr (.inl be))), (d1, .inl (cL, 40, .inr (.inl rd))), (e1, .inl (cL, 40, .inr (.inl ed)))] H := hP
  have hD : va_D A [(y, .inr (3, [.int 0, .long T, .ref m1, .ref m2, .int kn, .ref s1, .long re, .long gd, .long en, .ref v1, .ref h1, .long he, .ref d1, .ref e1, .int pl])), (m1, .inl (cI, 40, .inl mn)), (m2, .inl (cI, 160, .inl tg)), (s1, .inl (cL, 40, .inr (.inl ms))), (v1, .inl (cL, 40, .inr (.inl ov))), (h1, .inl (cL, 40, .inr (.inl be))), (d1, .inl (cL, 40, .inr (.inl rd))), (e1, .inl (cL, 40, .inr (.inl ed)))] := hD
  refine lv_iload_n hx hb dM_block_5 rfl (lv_at hl 1 rfl) ?_
  refine vp_callSi (W.runS (As := [.int (nI k)]) (rest := []) ⟨hx, hb, hml, hown, hT⟩ (m_isB1 l k (by omega)) (cwS 1 hT g_M_40 rfl rfl rfl (by decide +kernel) ⟨Nat.le_of_ble_eq_true rfl, Nat.le_of_ble_eq_true rfl⟩) preEq rfl rfl hl.1 rfl (lv_room (Nat.le_of_ble_eq_true rfl)) dM_block_6 ⟨Nat.le_of_ble_eq_true rfl, Nat.le_of_ble_eq_true rfl⟩) (fun r_1 hr_1 => ?_)
  rw [hr_1]; clear hr_1
  refine lv_if_eq (tgt := 23) hx hb dM_block_9 (by decide) (fun c_2 => ?_) (fun c_2 => ?_)
  · skip
    exact absurd c_2 (by decide)
  · skip
    refine lv_aload_n hx hb dM_block_12 rfl (lv_at hl 0 rfl) ?_
    refine va_get (D := (dC, dI)) (ci := 3) (v := .long T) (C := RM) (T := TM) (N := 15) hx hb hT inM hown hK hP 0 rfl rfl 1 (by decide) (hT _ hw_339) (fun _ h9 => h9) rfl dM_block_13 ?_
    refine lv_iload_n hx hb dM_block_16 rfl (lv_at hl 1 rfl) ?_
    refine vp_callSi (W.runS (As := [.long T, .int (nI k)]) (rest := []) ⟨hx, hb, hml, hown, hT⟩ (m_is l T k (by omega)) (cwS 2 hT g_M_36 rfl rfl rfl (by decide +kernel) ⟨Nat.le_of_ble_eq_true rfl, Nat.le_of_ble_eq_true rfl⟩) preEq rfl rfl hl.1 rfl (lv_room (Nat.le_of_ble_eq_true rfl)) dM_block_17 ⟨Nat.le_of_ble_eq_true rfl, Nat.le_of_ble_eq_true rfl⟩) (fun r_3 hr_3 => ?_)
    rw [hr_3]; clear hr_3
    refine lv_if_eq (tgt := 25) hx hb dM_block_20 (by decide) (fun c_4 => ?_) (fun c_4 => ?_)
    · skip
      have c_4 := bw_i0.mp c_4
      refine lv_aload_n hx hb dM_block_25 rfl (lv_at hl 0 rfl) ?_
      refine lv_aload_n hx hb dM_block_26 rfl (lv_at hl 0 rfl) ?_
      refine va_get (D := (dC, dI)) (ci := 3) (v := .long T) (C := RM) (T := TM) (N := 15) hx hb hT inM hown hK hP 0 rfl rfl 1 (by decide) (hT _ hw_339) (fun _ h9 => h9) rfl dM_block_27 ?_
      refine lv_iload_n hx hb dM_block_30 rfl (lv_at hl 1 rfl) ?_
      refine vp_callSl (W.runS (As := [.int (nI k)]) (rest := [.long T, .ref y]) ⟨hx, hb, hml, hown, hT⟩ (m_bit l k) (cwS 1 hT g_M_48 rfl rfl rfl (by decide +kernel) ⟨Nat.le_of_ble_eq_true rfl, Nat.le_of_ble_eq_true rfl⟩) preEq rfl rfl hl.1 rfl (lv_room (Nat.le_of_ble_eq_true rfl)) dM_block_31 ⟨Nat.le_of_ble_eq_true rfl, Nat.le_of_ble_eq_true rfl⟩) (fun r_5 hr_5 => ?_)
      rw [hr_5]; clear hr_5
      refine lv_lor hx hb dM_block_34 ?_
      refine va_put (D := (dC, dI)) (ci := 3) (v := .long (T ||| (bw_b k))) (ty := .long) (C := RM) (T := TM) (N := 15) hx hb hT inM tyM tokM nmM hown hK hP hD hS 0 rfl rfl 1 (by decide) (hT _ hw_339) (fun _ h9 => h9) rfl (by decide +kernel) rfl rfl (Nat.le_of_ble_eq_true rfl) dM_block_35 (fun H locs hP hD hS => ?_)
      have hP : va_P (dC, dI) vwCl [(y, .inr (3, [.int 0, .long (T ||| (bw_b k)), .ref m1, .ref m2, .int kn, .ref s1, .long re, .long gd, .long en, .ref v1, .ref h1, .long he, .ref d1, .ref e1, .int pl])), (m1, .inl (cI, 40, .inl mn)), (m2, .inl (cI, 160, .inl tg)), (s1, .inl (cL, 40, .inr (.inl ms))), (v1, .inl (cL, 40, .inr (.inl ov))), (h1, .inl (cL, 40, .inr (.inl be))), (d1, .inl (cL, 40, .inr (.inl rd))), (e1, .inl (cL, 40, .inr (.inl ed)))] H := hP
      have hD : va_D A [(y, .inr (3, [.int 0, .long (T ||| (bw_b k)), .ref m1, .ref m2, .int kn, .ref s1, .long re, .long gd, .long en, .ref v1, .ref h1, .long he, .ref d1, .ref e1, .int pl])), (m1, .inl (cI, 40, .inl mn)), (m2, .inl (cI, 160, .inl tg)), (s1, .inl (cL, 40, .inr (.inl ms))), (v1, .inl (cL, 40, .inr (.inl ov))), (h1, .inl (cL, 40, .inr (.inl be))), (d1, .inl (cL, 40, .inr (.inl rd))), (e1, .inl (cL, 40, .inr (.inl ed)))] := hD
      refine lv_aload_n hx hb dM_block_38 rfl (lv_at hl 0 rfl) ?_
      refine va_get (D := (dC, dI)) (ci := 3) (v := .ref m1) (C := RM) (T := TM) (N := 15) hx hb hT inM hown hK hP 0 rfl rfl 2 (by decide) (hT _ hw_340) (fun _ h9 => h9) rfl dM_block_39 ?_
      refine lv_iload_n hx hb dM_block_42 rfl (lv_at hl 1 rfl) ?_
      refine lv_iconst (v := 0) hx hb dM_block_43 (by decide) ?_
      refine bw_iast hx hb hK hP hD hS 1 0 (k := k) rfl rfl (by omega) (by decide) dM_block_44 (fun H locs hP hD hS => ?_)
      have hP : va_P (dC, dI) vwCl [(y, .inr (3, [.int 0, .long (T ||| (bw_b k)), .ref m1, .ref m2, .int kn, .ref s1, .long re, .long gd, .long en, .ref v1, .ref h1, .long he, .ref d1, .ref e1, .int pl])), (m1, .inl (cI, 40, .inl (upd mn k 0))), (m2, .inl (cI, 160, .inl tg)), (s1, .inl (cL, 40, .inr (.inl ms))), (v1, .inl (cL, 40, .inr (.inl ov))), (h1, .inl (cL, 40, .inr (.inl be))), (d1, .inl (cL, 40, .inr (.inl rd))), (e1, .inl (cL, 40, .inr (.inl ed)))] H := hP
      have hD : va_D A [(y, .inr (3, [.int 0, .long (T ||| (bw_b k)), .ref m1, .ref m2, .int kn, .ref s1, .long re, .long gd, .long en, .ref v1, .ref h1, .long he, .ref d1, .ref e1, .int pl])), (m1, .inl (cI, 40, .inl (upd mn k 0))), (m2, .inl (cI, 160, .inl tg)), (s1, .inl (cL, 40, .inr (.inl ms))), (v1, .inl (cL, 40, .inr (.inl ov))), (h1, .inl (cL, 40, .inr (.inl be))), (d1, .inl (cL, 40, .inr (.inl rd))), (e1, .inl (cL, 40, .inr (.inl ed)))] := hD
      refine lv_aload_n hx hb dM_block_45 rfl (lv_at hl 0 rfl) ?_
      refine lv_iconst (v := 0) hx hb dM_block_46 (by decide) ?_
      refine va_put (D := (dC, dI)) (ci := 3) (v := .int 0) (ty := .boolean) (C := RM) (T := TM) (N := 15) hx hb hT inM tyM tokM nmM hown hK hP hD hS 0 rfl rfl 4 (by decide) (hT _ hw_342) (fun _ h9 => h9) rfl (by decide +kernel) rfl rfl (Nat.le_of_ble_eq_true rfl) dM_block_47 (fun H locs hP hD hS => ?_)
      have hP : va_P (dC, dI) vwCl [(y, .inr (3, [.int 0, .long (T ||| (bw_b k)), .ref m1, .ref m2, .int 0, .ref s1, .long re, .long gd, .long en, .ref v1, .ref h1, .long he, .ref d1, .ref e1, .int pl])), (m1, .inl (cI, 40, .inl (upd mn k 0))), (m2, .inl (cI, 160, .inl tg)), (s1, .inl (cL, 40, .inr (.inl ms))), (v1, .inl (cL, 40, .inr (.inl ov))), (h1, .inl (cL, 40, .inr (.inl be))), (d1, .inl (cL, 40, .inr (.inl rd))), (e1, .inl (cL, 40, .inr (.inl ed)))] H := hP
      have hD : va_D A [(y, .inr (3, [.int 0, .long (T ||| (bw_b k)), .ref m1, .ref m2, .int 0, .ref s1, .long re, .long gd, .long en, .ref v1, .ref h1, .long he, .ref d1, .ref e1, .int pl])), (m1, .inl (cI, 40, .inl (upd mn k 0))), (m2, .inl (cI, 160, .inl tg)), (s1, .inl (cL, 40, .inr (.inl ms))), (v1, .inl (cL, 40, .inr (.inl ov))), (h1, .inl (cL, 40, .inr (.inl be))), (d1, .inl (cL, 40, .inr (.inl rd))), (e1, .inl (cL, 40, .inr (.inl ed)))] := hD
      refine lv_iconst (v := 1) hx hb dM_block_50 (by decide) ?_
      have hP9 := hP.sub (ws' := [(y, .inr (3, [.int 0, .long (T ||| (bw_b k)), .ref m1, .ref m2, .int 0, .ref s1, .long re, .long gd, .long en, .ref v1, .ref h1, .long he, .ref d1, .ref e1, .int pl])), (m1, .inl (cI, 40, .inl (upd mn k 0))), (m2, .inl (cI, 160, .inl tg)), (s1, .inl (cL, 40, .inr (.inl ms))), (v1, .inl (cL, 40, .inr (.inl ov))), (h1, .inl (cL, 40, .inr (.inl be))), (d1, .inl (cL, 40, .inr (.inl rd))), (e1, .inl (cL, 40, .inr (.inl ed)))]) [0, 1, 2, 3, 4, 5, 6, 7] rfl
      have hD9 := hD.sub (ws' := [(y, .inr (3, [.int 0, .long (T ||| (bw_b k)), .ref m1, .ref m2, .int 0, .ref s1, .long re, .long gd, .long en, .ref v1, .ref h1, .long he, .ref d1, .ref e1, .int pl])), (m1, .inl (cI, 40, .inl (upd mn k 0))), (m2, .inl (cI, 160, .inl tg)), (s1, .inl (cL, 40, .inr (.inl ms))), (v1, .inl (cL, 40, .inr (.inl ov))), (h1, .inl (cL, 40, .inr (.inl be))), (d1, .inl (cL, 40, .inr (.inl rd))), (e1, .inl (cL, 40, .inr (.inl ed)))]) [0, 1, 2, 3, 4, 5, 6, 7] (by decide) rfl
      exact W.zret (v := 1) hx hb hr rfl (fun t9 ht9 hW9 => ⟨⟨_, (), rfl, rfl, by rw [ht9]; exact hP9, by exact hD9⟩, hS.F ht9⟩) hS.2.2 dM_block_51
    · skip
      have c_4 := bw_in0 c_4
      rw [hT9] at c_4; cases c_4
set_option maxHeartbeats 4000000 in
set_option maxRecDepth 100000 in
theorem m_targetA (l : Launch) (dC : Nat → ClassId) (dI : Nat → Nat → Nat) (y m1 m2 s1 v1 h1 d1 e1 : Nat) (cI cL : ClassId) (tw : Int32) (T : Int64) (mn tg : Nat → Int32) (kn : Int32) (ms : Nat → Int64) (re gd en : Int64) (ov be : Nat → Int64) (he : Int64) (rd ed : Nat → Int64) (pl : Int32) (b : Int32) (hb9 : ∀ k, k < 40 → ¬ b = nI k) (to : Int32) (sz : Nat) : Met l yM_target wsM_target ({ frames := 1, cells := 0, slots := 0, locals := 20 } : Room) (bw_Wr (dC, dI) [(cI, .int), (cL, .long)] [(y, .inr (3, [.int tw, .long T, .ref m1, .ref m2, .int kn, .ref s1, .long re, .long gd, .long en, .ref v1, .ref h1, .long he, .ref d1, .ref e1, .int pl])), (m1, .inl (cI, 40, .inl mn)), (m2, .inl (cI, 160, .inl tg)), (s1, .inl (cL, 40, .inr (.inl ms))), (v1, .inl (cL, 40, .inr (.inl ov))), (h1, .inl (cL, 40, .inr (.inl be))), (d1, .inl (cL, 40, .inr (.inl rd))), (e1, .inl (cL, 40, .inr (.inl ed)))] sz [.ref y, .int b, .int to]) (va_Qi (S := Unit) (fun r _ => r = 0) (fun (_ : Unit) t => va_P (dC, dI) vwCl [(y, .inr (3, [.int 0, .long T, .ref m1, .ref m2, .int kn, .ref s1, .long re, .long gd, .long en, .ref v1, .ref h1, .long he, .ref d1, .ref e1, .int pl])), (m1, .inl (cI, 40, .inl mn)), (m2, .inl (cI, 160, .inl tg)), (s1, .inl (cL, 40, .inr (.inl ms))), (v1, .inl (cL, 40, .inr (.inl ov))), (h1, .inl (cL, 40, .inr (.inl be))), (d1, .inl (cL, 40, .inr (.inl rd))), (e1, .inl (cL, 40, .inr (.inl ed)))] t.heap ∧ va_D (va_A [(y, .inr (3, [.int tw, .long T, .ref m1, .ref m2, .int kn, .ref s1, .long re, .long gd, .long en, .ref v1, .ref h1, .long he, .ref d1, .ref e1, .int pl])), (m1, .inl (cI, 40, .inl mn)), (m2, .inl (cI, 160, .inl tg)), (s1, .inl (cL, 40, .inr (.inl ms))), (v1, .inl (cL, 40, .inr (.inl ov))), (h1, .inl (cL, 40, .inr (.inl be))), (d1, .inl (cL, 40, .inr (.inl rd))), (e1, .inl (cL, 40, .inr (.inl ed)))] sz) [(y, .inr (3, [.int 0, .long T, .ref m1, .ref m2, .int kn, .ref s1, .long re, .long gd, .long en, .ref v1, .ref h1, .long he, .ref d1, .ref e1, .int pl])), (m1, .inl (cI, 40, .inl mn)), (m2, .inl (cI, 160, .inl tg)), (s1, .inl (cL, 40, .inr (.inl ms))), (v1, .inl (cL, 40, .inr (.inl ov))), (h1, .inl (cL, 40, .inr (.inl be))), (d1, .inl (cL, 40, .inr (.inl rd))), (e1, .inl (cL, 40, .inr (.inl ed)))]) (va_A [(y, .inr (3, [.int tw, .long T, .ref m1, .ref m2, .int kn, .ref s1, .long re, .long gd, .long en, .ref v1, .ref h1, .long he, .ref d1, .ref e1, .int pl])), (m1, .inl (cI, 40, .inl mn)), (m2, .inl (cI, 160, .inl tg)), (s1, .inl (cL, 40, .inr (.inl ms))), (v1, .inl (cL, 40, .inr (.inl ov))), (h1, .inl (cL, 40, .inr (.inl be))), (d1, .inl (cL, 40, .inr (.inl rd))), (e1, .inl (cL, 40, .inr (.inl ed)))] sz)) 0 0 (va_A [(y, .inr (3, [.int tw, .long T, .ref m1, .ref m2, .int kn, .ref s1, .long re, .long gd, .long en, .ref v1, .ref h1, .long he, .ref d1, .ref e1, .int pl])), (m1, .inl (cI, 40, .inl mn)), (m2, .inl (cI, 160, .inl tg)), (s1, .inl (cL, 40, .inr (.inl ms))), (v1, .inl (cL, 40, .inr (.inl ov))), (h1, .inl (cL, 40, .inr (.inl be))), (d1, .inl (cL, 40, .inr (.inl rd))), (e1, .inl (cL, 40, .inr (.inl ed)))] sz) := by
  refine Met.ofW (cc := cM_target) (maxL := 3) (ret := (some .boolean)) (by decide) rfl ?_
  intro p e s m args below meth c s₁ B hml hv
  obtain ⟨rfl, hsz, hP, hK, hN, hD0⟩ := hv
  have hx := B.exec
  have hb := B.bytes
  have hr := B.returns
  have hts := atoms_spec (ws := wsM_target) B.pre
  have hT : ∀ w ∈ bwB, w.before _ s = true := fun w h => hts w (List.mem_cons_of_mem _ h)
  have hown : s.vm.findClass RM = some m.cls := findClass_of_methodNamed B.named
  have hlocks := B.notSynchronized
  subst hsz
  have hD := hD0.self (sz := s.heap.size)
  generalize hAe : va_A [(y, .inr (3, [.int tw, .long T, .ref m1, .ref m2, .int kn, .ref s1, .long re, .long gd, .long en, .ref v1, .ref h1, .long he, .ref d1, .ref e1, .int pl])), (m1, .inl (cI, 40, .inl mn)), (m2, .inl (cI, 160, .inl tg)), (s1, .inl (cL, 40, .inr (.inl ms))), (v1, .inl (cL, 40, .inr (.inl ov))), (h1, .inl (cL, 40, .inr (.inl be))), (d1, .inl (cL, 40, .inr (.inl rd))), (e1, .inl (cL, 40, .inr (.inl ed)))] s.heap.size = A at hD ⊢
  have hA : ∀ q : Nat, s.heap.size ≤ q → A q := fun q h => by rw [← hAe]; exact Or.inr h
  have hS : va_S A s.heap s.heap [] := va_S.rf
  have hP : va_P (dC, dI) vwCl [(y, .inr (3, [.int tw, .long T, .ref m1, .ref m2, .int kn, .ref s1, .long re, .long gd, .long en, .ref v1, .ref h1, .long he, .ref d1, .ref e1, .int pl])), (m1, .inl (cI, 40, .inl mn)), (m2, .inl (cI, 160, .inl tg)), (s1, .inl (cL, 40, .inr (.inl ms))), (v1, .inl (cL, 40, .inr (.inl ov))), (h1, .inl (cL, 40, .inr (.inl be))), (d1, .inl (cL, 40, .inr (.inl rd))), (e1, .inl (cL, 40, .inr (.inl ed)))] s.heap := hP
  have hl := lv_entry ([.ref y, .int b, .int to]) (n := 3) (Nat.le_of_ble_eq_true rfl)
  rw [lg_entry_eq]
  generalize (lg_sl ([.ref y, .int b, .int to]) ++ List.replicate (3 - (lg_sl ([.ref y, .int b, .int to])).length) Slot.unset).toArray = ls at hl ⊢
  have hl : lv_has ls 3 [(0, .ref y), (1, .int b), (2, .int to)] := hl
  refine lv_aload_n hx hb dM_target_0 rfl (lv_at hl 0 rfl) ?_
  refine lv_iconst (v := 0) hx hb dM_target_1 (by decide) ?_
  refine va_put (D := (dC, dI)) (ci := 3) (v := .int 0) (ty := .int) (C := RM) (T := TM) (N := 15) hx hb hT inM tyM tokM nmM hown hK hP hD hS 0 rfl rfl 0 (by decide) (hT _ hw_338) (fun _ h9 => h9) rfl (by decide +kernel) rfl rfl (Nat.le_of_ble_eq_true rfl) dM_target_2 (fun H locs hP hD hS => ?_)
  have hP : va_P (dC, dI) vwCl [(y, .inr (3, [.int 0, .long T, .ref m1, .ref m2, .int kn, .ref s1, .long re, .long gd, .long en, .ref v1, .ref h1, .long he, .ref d1, .ref e1, .int pl])), (m1, .inl (cI, 40, .inl mn)), (m2, .inl (cI, 160, .inl tg)), (s1, .inl (cL, 40, .inr (.inl ms))), (v1, .inl (cL, 40, .inr (.inl ov))), (h1, .inl (cL, 40, .inr (.inl be))), (d1, .inl (cL, 40, .inr (.inl rd))), (e1, .inl (cL, 40, .inr (.inl ed)))] H := hP
  have hD : va_D A [(y, .inr (3, [.int 0, .long T, .ref m1, .ref m2, .int kn, .ref s1, .long re, .long gd, .long en, .ref v1, .ref h1, .long he, .ref d1, .ref e1, .int pl])), (m1, .inl (cI, 40, .inl mn)), (m2, .inl (cI, 160, .inl tg)), (s1, .inl (cL, 40, .inr (.inl ms))), (v1, .inl (cL, 40, .inr (.inl ov))), (h1, .inl (cL, 40, .inr (.inl be))), (d1, .inl (cL, 40, .inr (.inl rd))), (e1, .inl (cL, 40, .inr (.inl ed)))] := hD
  refine lv_iload_n hx hb dM_target_5 rfl (lv_at hl 1 rfl) ?_
  refine vp_callSi (W.runS (As := [.int b]) (rest := []) ⟨hx, hb, hml, hown, hT⟩ (m_isB0 l b hb9) (cwS 1 hT g_M_40 rfl rfl rfl (by decide +kernel) ⟨Nat.le_of_ble_eq_true rfl, Nat.le_of_ble_eq_true rfl⟩) preEq rfl rfl hl.1 rfl (lv_room (Nat.le_of_ble_eq_true rfl)) dM_target_6 ⟨Nat.le_of_ble_eq_true rfl, Nat.le_of_ble_eq_true rfl⟩) (fun r_1 hr_1 => ?_)
  rw [hr_1]; clear hr_1
  refine lv_if_eq (tgt := 40) hx hb dM_target_9 (by decide) (fun c_2 => ?_) (fun c_2 => ?_)
  · skip
    refine lv_iconst (v := 0) hx hb dM_target_40 (by decide) ?_
    have hP9 := hP.sub (ws' := [(y, .inr (3, [.int 0, .long T, .ref m1, .ref m2, .int kn, .ref s1, .long re, .long gd, .long en, .ref v1, .ref h1, .long he, .ref d1, .ref e1, .int pl])), (m1, .inl (cI, 40, .inl mn)), (m2, .inl (cI, 160, .inl tg)), (s1, .inl (cL, 40, .inr (.inl ms))), (v1, .inl (cL, 40, .inr (.inl ov))), (h1, .inl (cL, 40, .inr (.inl be))), (d1, .inl (cL, 40, .inr (.inl rd))), (e1, .inl (cL, 40, .inr (.inl ed)))]) [0, 1, 2, 3, 4, 5, 6, 7] rfl
    have hD9 := hD.sub (ws' := [(y, .inr (3, [.int 0, .long T, .ref m1, .ref m2, .int kn, .ref s1, .long re, .long gd, .long en, .ref v1, .ref h1, .long he, .ref d1, .ref e1, .int pl])), (m1, .inl (cI, 40, .inl mn)), (m2, .inl (cI, 160, .inl tg)), (s1, .inl (cL, 40, .inr (.inl ms))), (v1, .inl (cL, 40, .inr (.inl ov))), (h1, .inl (cL, 40, .inr (.inl be))), (d1, .inl (cL, 40, .inr (.inl rd))), (e1, .inl (cL, 40, .inr (.inl ed)))]) [0, 1, 2, 3, 4, 5, 6, 7] (by decide) rfl
    exact W.zret (v := 0) hx hb hr rfl (fun t9 ht9 hW9 => ⟨⟨_, (), rfl, rfl, by rw [ht9]; exact hP9, by exact hD9⟩, hS.F ht9⟩) hS.2.2 dM_target_41
  · skip
    exact absurd rfl c_2
set_option maxHeartbeats 4000000 in
set_option maxRecDepth 100000 in
theorem m_targetB (l : Launch) (dC : Nat → ClassId) (dI : Nat → Nat → Nat) (y m1 m2 s1 v1 h1 d1 e1 : Nat) (cI cL : ClassId) (tw : Int32) (T : Int64) (mn tg : Nat → Int32) (kn : Int32) (ms : Nat → Int64) (re gd en : Int64) (ov be : Nat → Int64) (he : Int64) (rd ed : Nat → Int64) (pl : Int32) (k : Nat) (hk : k < 40) (b : Int32) (hb9 : ∀ k, k < 40 → ¬ b = nI k) (sz : Nat) : Met l yM_target wsM_target ({ frames := 1, cells := 0, slots := 0, locals := 20 } : Room) (bw_Wr (dC, dI) [(cI, .int), (cL, .long)] [(y, .inr (3, [.int tw, .long T, .ref m1, .ref m2, .int kn, .ref s1, .long re, .long gd, .long en, .ref v1, .ref h1, .long he, .ref d1, .ref e1, .int pl])), (m1, .inl (cI, 40, .inl mn)), (m2, .inl (cI, 160, .inl tg)), (s1, .inl (cL, 40, .inr (.inl ms))), (v1, .inl (cL, 40, .inr (.inl ov))), (h1, .inl (cL, 40, .inr (.inl be))), (d1, .inl (cL, 40, .inr (.inl rd))), (e1, .inl (cL, 40, .inr (.inl ed)))] sz [.ref y, .int (nI k), .int b]) (va_Qi (S := Unit) (fun r _ => r = 0) (fun (_ : Unit) t => va_P (dC, dI) vwCl [(y, .inr (3, [.int 0, .long T, .ref m1, .ref m2, .int kn, .ref s1, .long re, .long gd, .long en, .ref v1, .ref h1, .long he, .ref d1, .ref e1, .int pl])), (m1, .inl (cI, 40, .inl mn)), (m2, .inl (cI, 160, .inl tg)), (s1, .inl (cL, 40, .inr (.inl ms))), (v1, .inl (cL, 40, .inr (.inl ov))), (h1, .inl (cL, 40, .inr (.inl be))), (d1, .inl (cL, 40, .inr (.inl rd))), (e1, .inl (cL, 40, .inr (.inl ed)))] t.heap ∧ va_D (va_A [(y, .inr (3, [.int tw, .long T, .ref m1, .ref m2, .int kn, .ref s1, .long re, .long gd, .long en, .ref v1, .ref h1, .long he, .ref d1, .ref e1, .int pl])), (m1, .inl (cI, 40, .inl mn)), (m2, .inl (cI, 160, .inl tg)), (s1, .inl (cL, 40, .inr (.inl ms))), (v1, .inl (cL, 40, .inr (.inl ov))), (h1, .inl (cL, 40, .inr (.inl be))), (d1, .inl (cL, 40, .inr (.inl rd))), (e1, .inl (cL, 40, .inr (.inl ed)))] sz) [(y, .inr (3, [.int 0, .long T, .ref m1, .ref m2, .int kn, .ref s1, .long re, .long gd, .long en, .ref v1, .ref h1, .long he, .ref d1, .ref e1, .int pl])), (m1, .inl (cI, 40, .inl mn)), (m2, .inl (cI, 160, .inl tg)), (s1, .inl (cL, 40, .inr (.inl ms))), (v1, .inl (cL, 40, .inr (.inl ov))), (h1, .inl (cL, 40, .inr (.inl be))), (d1, .inl (cL, 40, .inr (.inl rd))), (e1, .inl (cL, 40, .inr (.inl ed)))]) (va_A [(y, .inr (3, [.int tw, .long T, .ref m1, .ref m2, .int kn, .ref s1, .long re, .long gd, .long en, .ref v1, .ref h1, .long he, .ref d1, .ref e1, .int pl])), (m1, .inl (cI, 40, .inl mn)), (m2, .inl (cI, 160, .inl tg)), (s1, .inl (cL, 40, .inr (.inl ms))), (v1, .inl (cL, 40, .inr (.inl ov))), (h1, .inl (cL, 40, .inr (.inl be))), (d1, .inl (cL, 40, .inr (.inl rd))), (e1, .inl (cL, 40, .inr (.inl ed)))] sz)) 0 0 (va_A [(y, .inr (3, [.int tw, .long T, .ref m1, .ref m2, .int kn, .ref s1, .long re, .long gd, .long en, .ref v1, .ref h1, .long he, .ref d1, .ref e1, .int pl])), (m1, .inl (cI, 40, .inl mn)), (m2, .inl (cI, 160, .inl tg)), (s1, .inl (cL, 40, .inr (.inl ms))), (v1, .inl (cL, 40, .inr (.inl ov))), (h1, .inl (cL, 40, .inr (.inl be))), (d1, .inl (cL, 40, .inr (.inl rd))), (e1, .inl (cL, 40, .inr (.inl ed)))] sz) := by
  refine Met.ofW (cc := cM_target) (maxL := 3) (ret := (some .boolean)) (by decide) rfl ?_
  intro p e s m args below meth c s₁ B hml hv
  obtain ⟨rfl, hsz, hP, hK, hN, hD0⟩ := hv
  have hx := B.exec
  have hb := B.bytes
  have hr := B.returns
  have hts := atoms_spec (ws := wsM_target) B.pre
  have hT : ∀ w ∈ bwB, w.before _ s = true := fun w h => hts w (List.mem_cons_of_mem _ h)
  have hown : s.vm.findClass RM = some m.cls := findClass_of_methodNamed B.named
  have hlocks := B.notSynchronized
  subst hsz
  have hD := hD0.self (sz := s.heap.size)
  generalize hAe : va_A [(y, .inr (3, [.int tw, .long T, .ref m1, .ref m2, .int kn, .ref s1, .long re, .long gd, .long en, .ref v1, .ref h1, .long he, .ref d1, .ref e1, .int pl])), (m1, .inl (cI, 40, .inl mn)), (m2, .inl (cI, 160, .inl tg)), (s1, .inl (cL, 40, .inr (.inl ms))), (v1, .inl (cL, 40, .inr (.inl ov))), (h1, .inl (cL, 40, .inr (.inl be))), (d1, .inl (cL, 40, .inr (.inl rd))), (e1, .inl (cL, 40, .inr (.inl ed)))] s.heap.size = A at hD ⊢
  have hA : ∀ q : Nat, s.heap.size ≤ q → A q := fun q h => by rw [← hAe]; exact Or.inr h
  have hS : va_S A s.heap s.heap [] := va_S.rf
  have hP : va_P (dC, dI) vwCl [(y, .inr (3, [.int tw, .long T, .ref m1, .ref m2, .int kn, .ref s1, .long re, .long gd, .long en, .ref v1, .ref h1, .long he, .ref d1, .ref e1, .int pl])), (m1, .inl (cI, 40, .inl mn)), (m2, .inl (cI, 160, .inl tg)), (s1, .inl (cL, 40, .inr (.inl ms))), (v1, .inl (cL, 40, .inr (.inl ov))), (h1, .inl (cL, 40, .inr (.inl be))), (d1, .inl (cL, 40, .inr (.inl rd))), (e1, .inl (cL, 40, .inr (.inl ed)))] s.heap := hP
  have hl := lv_entry ([.ref y, .int (nI k), .int b]) (n := 3) (Nat.le_of_ble_eq_true rfl)
  rw [lg_entry_eq]
  generalize (lg_sl ([.ref y, .int (nI k), .int b]) ++ List.replicate (3 - (lg_sl ([.ref y, .int (nI k), .int b])).length) Slot.unset).toArray = ls at hl ⊢
  have hl : lv_has ls 3 [(0, .ref y), (1, .int (nI k)), (2, .int b)] := hl
  refine lv_aload_n hx hb dM_target_0 rfl (lv_at hl 0 rfl) ?_
  refine lv_iconst (v := 0) hx hb dM_target_1 (by decide) ?_
  refine va_put (D := (dC, dI)) (ci := 3) (v := .int 0) (ty := .int) (C := RM) (T := TM) (N := 15) hx hb hT inM tyM tokM nmM hown hK hP hD hS 0 rfl rfl 0 (by decide) (hT _ hw_338) (fun _ h9 => h9) rfl (by decide +kernel) rfl rfl (Nat.le_of_ble_eq_true rfl) dM_target_2 (fun H locs hP hD hS => ?_)
  have hP : va_P (dC, dI) vwCl [(y, .inr (3, [.int 0, .long T, .ref m1, .ref m2, .int kn, .ref s1, .long re, .long gd, .long en, .ref v1, .ref h1, .long he, .ref d1, .ref e1, .int pl])), (m1, .inl (cI, 40, .inl mn)), (m2, .inl (cI, 160, .inl tg)), (s1, .inl (cL, 40, .inr (.inl ms))), (v1, .inl (cL, 40, .inr (.inl ov))), (h1, .inl (cL, 40, .inr (.inl be))), (d1, .inl (cL, 40, .inr (.inl rd))), (e1, .inl (cL, 40, .inr (.inl ed)))] H := hP
  have hD : va_D A [(y, .inr (3, [.int 0, .long T, .ref m1, .ref m2, .int kn, .ref s1, .long re, .long gd, .long en, .ref v1, .ref h1, .long he, .ref d1, .ref e1, .int pl])), (m1, .inl (cI, 40, .inl mn)), (m2, .inl (cI, 160, .inl tg)), (s1, .inl (cL, 40, .inr (.inl ms))), (v1, .inl (cL, 40, .inr (.inl ov))), (h1, .inl (cL, 40, .inr (.inl be))), (d1, .inl (cL, 40, .inr (.inl rd))), (e1, .inl (cL, 40, .inr (.inl ed)))] := hD
  refine lv_iload_n hx hb dM_target_5 rfl (lv_at hl 1 rfl) ?_
  refine vp_callSi (W.runS (As := [.int (nI k)]) (rest := []) ⟨hx, hb, hml, hown, hT⟩ (m_isB1 l k (by omega)) (cwS 1 hT g_M_40 rfl rfl rfl (by decide +kernel) ⟨Nat.le_of_ble_eq_true rfl, Nat.le_of_ble_eq_true rfl⟩) preEq rfl rfl hl.1 rfl (lv_room (Nat.le_of_ble_eq_true rfl)) dM_target_6 ⟨Nat.le_of_ble_eq_true rfl, Nat.le_of_ble_eq_true rfl⟩) (fun r_1 hr_1 => ?_)
  rw [hr_1]; clear hr_1
  refine lv_if_eq (tgt := 40) hx hb dM_target_9 (by decide) (fun c_2 => ?_) (fun c_2 => ?_)
  · skip
    exact absurd c_2 (by decide)
  · skip
    refine lv_iload_n hx hb dM_target_12 rfl (lv_at hl 2 rfl) ?_
    refine vp_callSi (W.runS (As := [.int b]) (rest := []) ⟨hx, hb, hml, hown, hT⟩ (m_isB0 l b hb9) (cwS 1 hT g_M_40 rfl rfl rfl (by decide +kernel) ⟨Nat.le_of_ble_eq_true rfl, Nat.le_of_ble_eq_true rfl⟩) preEq rfl rfl hl.1 rfl (lv_room (Nat.le_of_ble_eq_true rfl)) dM_target_13 ⟨Nat.le_of_ble_eq_true rfl, Nat.le_of_ble_eq_true rfl⟩) (fun r_3 hr_3 => ?_)
    rw [hr_3]; clear hr_3
    refine lv_if_eq (tgt := 40) hx hb dM_target_16 (by decide) (fun c_4 => ?_) (fun c_4 => ?_)
    · skip
      refine lv_iconst (v := 0) hx hb dM_target_40 (by decide) ?_
      have hP9 := hP.sub (ws' := [(y, .inr (3, [.int 0, .long T, .ref m1, .ref m2, .int kn, .ref s1, .long re, .long gd, .long en, .ref v1, .ref h1, .long he, .ref d1, .ref e1, .int pl])), (m1, .inl (cI, 40, .inl mn)), (m2, .inl (cI, 160, .inl tg)), (s1, .inl (cL, 40, .inr (.inl ms))), (v1, .inl (cL, 40, .inr (.inl ov))), (h1, .inl (cL, 40, .inr (.inl be))), (d1, .inl (cL, 40, .inr (.inl rd))), (e1, .inl (cL, 40, .inr (.inl ed)))]) [0, 1, 2, 3, 4, 5, 6, 7] rfl
      have hD9 := hD.sub (ws' := [(y, .inr (3, [.int 0, .long T, .ref m1, .ref m2, .int kn, .ref s1, .long re, .long gd, .long en, .ref v1, .ref h1, .long he, .ref d1, .ref e1, .int pl])), (m1, .inl (cI, 40, .inl mn)), (m2, .inl (cI, 160, .inl tg)), (s1, .inl (cL, 40, .inr (.inl ms))), (v1, .inl (cL, 40, .inr (.inl ov))), (h1, .inl (cL, 40, .inr (.inl be))), (d1, .inl (cL, 40, .inr (.inl rd))), (e1, .inl (cL, 40, .inr (.inl ed)))]) [0, 1, 2, 3, 4, 5, 6, 7] (by decide) rfl
      exact W.zret (v := 0) hx hb hr rfl (fun t9 ht9 hW9 => ⟨⟨_, (), rfl, rfl, by rw [ht9]; exact hP9, by exact hD9⟩, hS.F ht9⟩) hS.2.2 dM_target_41
    · skip
      exact absurd rfl c_4
set_option maxHeartbeats 4000000 in
set_option maxRecDepth 100000 in
theorem m_targetC (l : Launch) (dC : Nat → ClassId) (dI : Nat → Nat → Nat) (y m1 m2 s1 v1 h1 d1 e1 : Nat) (cI cL : ClassId) (tw : Int32) (T : Int64) (mn tg : Nat → Int32) (kn : Int32) (ms : Nat → Int64) (re gd en : Int64) (ov be : Nat → Int64) (he : Int64) (rd ed : Nat → Int64) (pl : Int32) (k : Nat) (hk : k < 40) (j : Nat) (hj : j < 40) (hT9 : bw_m T k = false) (sz : Nat) : Met l yM_target wsM_target ({ frames := 1, cells := 0, slots := 0, locals := 22 } : Room) (bw_Wr (dC, dI) [(cI, .int), (cL, .long)] [(y, .inr (3, [.int tw, .long T, .ref m1, .ref m2, .int kn, .ref s1, .long re, .long gd, .long en, .ref v1, .ref h1, .long he, .ref d1, .ref e1, .int pl])), (m1, .inl (cI, 40, .inl mn)), (m2, .inl (cI, 160, .inl tg)), (s1, .inl (cL, 40, .inr (.inl ms))), (v1, .inl (cL, 40, .inr (.inl ov))), (h1, .inl (cL, 40, .inr (.inl be))), (d1, .inl (cL, 40, .inr (.inl rd))), (e1, .inl (cL, 40, .inr (.inl ed)))] sz [.ref y, .int (nI k), .int (nI j)]) (va_Qi (S := Unit) (fun r _ => r = 0) (fun (_ : Unit) t => va_P (dC, dI) vwCl [(y, .inr (3, [.int 0, .long T, .ref m1, .ref m2, .int kn, .ref s1, .long re, .long gd, .long en, .ref v1, .ref h1, .long he, .ref d1, .ref e1, .int pl])), (m1, .inl (cI, 40, .inl mn)), (m2, .inl (cI, 160, .inl tg)), (s1, .inl (cL, 40, .inr (.inl ms))), (v1, .inl (cL, 40, .inr (.inl ov))), (h1, .inl (cL, 40, .inr (.inl be))), (d1, .inl (cL, 40, .inr (.inl rd))), (e1, .inl (cL, 40, .inr (.inl ed)))] t.heap ∧ va_D (va_A [(y, .inr (3, [.int tw, .long T, .ref m1, .ref m2, .int kn, .ref s1, .long re, .long gd, .long en, .ref v1, .ref h1, .long he, .ref d1, .ref e1, .int pl])), (m1, .inl (cI, 40, .inl mn)), (m2, .inl (cI, 160, .inl tg)), (s1, .inl (cL, 40, .inr (.inl ms))), (v1, .inl (cL, 40, .inr (.inl ov))), (h1, .inl (cL, 40, .inr (.inl be))), (d1, .inl (cL, 40, .inr (.inl rd))), (e1, .inl (cL, 40, .inr (.inl ed)))] sz) [(y, .inr (3, [.int 0, .long T, .ref m1, .ref m2, .int kn, .ref s1, .long re, .long gd, .long en, .ref v1, .ref h1, .long he, .ref d1, .ref e1, .int pl])), (m1, .inl (cI, 40, .inl mn)), (m2, .inl (cI, 160, .inl tg)), (s1, .inl (cL, 40, .inr (.inl ms))), (v1, .inl (cL, 40, .inr (.inl ov))), (h1, .inl (cL, 40, .inr (.inl be))), (d1, .inl (cL, 40, .inr (.inl rd))), (e1, .inl (cL, 40, .inr (.inl ed)))]) (va_A [(y, .inr (3, [.int tw, .long T, .ref m1, .ref m2, .int kn, .ref s1, .long re, .long gd, .long en, .ref v1, .ref h1, .long he, .ref d1, .ref e1, .int pl])), (m1, .inl (cI, 40, .inl mn)), (m2, .inl (cI, 160, .inl tg)), (s1, .inl (cL, 40, .inr (.inl ms))), (v1, .inl (cL, 40, .inr (.inl ov))), (h1, .inl (cL, 40, .inr (.inl be))), (d1, .inl (cL, 40, .inr (.inl rd))), (e1, .inl (cL, 40, .inr (.inl ed)))] sz)) 0 0 (va_A [(y, .inr (3, [.int tw, .long T, .ref m1, .ref m2, .int kn, .ref s1, .long re, .long gd, .long en, .ref v1, .ref h1, .long he, .ref d1, .ref e1, .int pl])), (m1, .inl (cI, 40, .inl mn)), (m2, .inl (cI, 160, .inl tg)), (s1, .inl (cL, 40, .inr (.inl ms))), (v1, .inl (cL, 40, .inr (.inl ov))), (h1, .inl (cL, 40, .inr (.inl be))), (d1, .inl (cL, 40, .inr (.inl rd))), (e1, .inl (cL, 40, .inr (.inl ed)))] sz) := by
  refine Met.ofW (cc := cM_target) (maxL := 3) (ret := (some .boolean)) (by decide) rfl ?_
  intro p e s m args below meth c s₁ B hml hv
  obtain ⟨rfl, hsz, hP, hK, hN, hD0⟩ := hv
  have hx := B.exec
  have hb := B.bytes
  have hr := B.returns
  have hts := atoms_spec (ws := wsM_target) B.pre
  have hT : ∀ w ∈ bwB, w.before _ s = true := fun w h => hts w (List.mem_cons_of_mem _ h)
  have hown : s.vm.findClass RM = some m.cls := findClass_of_methodNamed B.named
  have hlocks := B.notSynchronized
  subst hsz
  have hD := hD0.self (sz := s.heap.size)
  generalize hAe : va_A [(y, .inr (3, [.int tw, .long T, .ref m1, .ref m2, .int kn, .ref s1, .long re, .long gd, .long en, .ref v1, .ref h1, .long he, .ref d1, .ref e1, .int pl])), (m1, .inl (cI, 40, .inl mn)), (m2, .inl (cI, 160, .inl tg)), (s1, .inl (cL, 40, .inr (.inl ms))), (v1, .inl (cL, 40, .inr (.inl ov))), (h1, .inl (cL, 40, .inr (.inl be))), (d1, .inl (cL, 40, .inr (.inl rd))), (e1, .inl (cL, 40, .inr (.inl ed)))] s.heap.size = A at hD ⊢
  have hA : ∀ q : Nat, s.heap.size ≤ q → A q := fun q h => by rw [← hAe]; exact Or.inr h
  have hS : va_S A s.heap s.heap [] := va_S.rf
  have hP : va_P (dC, dI) vwCl [(y, .inr (3, [.int tw, .long T, .ref m1, .ref m2, .int kn, .ref s1, .long re, .long gd, .long en, .ref v1, .ref h1, .long he, .ref d1, .ref e1, .int pl])), (m1, .inl (cI, 40, .inl mn)), (m2, .inl (cI, 160, .inl tg)), (s1, .inl (cL, 40, .inr (.inl ms))), (v1, .inl (cL, 40, .inr (.inl ov))), (h1, .inl (cL, 40, .inr (.inl be))), (d1, .inl (cL, 40, .inr (.inl rd))), (e1, .inl (cL, 40, .inr (.inl ed)))] s.heap := hP
  have hl := lv_entry ([.ref y, .int (nI k), .int (nI j)]) (n := 3) (Nat.le_of_ble_eq_true rfl)
  rw [lg_entry_eq]
  generalize (lg_sl ([.ref y, .int (nI k), .int (nI j)]) ++ List.replicate (3 - (lg_sl ([.ref y, .int (nI k), .int (nI j)])).length) Slot.unset).toArray = ls at hl ⊢
  have hl : lv_has ls 3 [(0, .ref y), (1, .int (nI k)), (2, .int (nI j))] := hl
  refine lv_aload_n hx hb dM_target_0 rfl (lv_at hl 0 rfl) ?_
  refine lv_iconst (v := 0) hx hb dM_target_1 (by decide) ?_
  refine va_put (D := (dC, dI)) (ci := 3) (v := .int 0) (ty := .int) (C := RM) (T := TM) (N := 15) hx hb hT inM tyM tokM nmM hown hK hP hD hS 0 rfl rfl 0 (by decide) (hT _ hw_338) (fun _ h9 => h9) rfl (by decide +kernel) rfl rfl (Nat.le_of_ble_eq_true rfl) dM_target_2 (fun H locs hP hD hS => ?_)
  have hP : va_P (dC, dI) vwCl [(y, .inr (3, [.int 0, .long T, .ref m1, .ref m2, .int kn, .ref s1, .long re, .long gd, .long en, .ref v1, .ref h1, .long he, .ref d1, .ref e1, .int pl])), (m1, .inl (cI, 40, .inl mn)), (m2, .inl (cI, 160, .inl tg)), (s1, .inl (cL, 40, .inr (.inl ms))), (v1, .inl (cL, 40, .inr (.inl ov))), (h1, .inl (cL, 40, .inr (.inl be))), (d1, .inl (cL, 40, .inr (.inl rd))), (e1, .inl (cL, 40, .inr (.inl ed)))] H := hP
  have hD : va_D A [(y, .inr (3, [.int 0, .long T, .ref m1, .ref m2, .int kn, .ref s1, .long re, .long gd, .long en, .ref v1, .ref h1, .long he, .ref d1, .ref e1, .int pl])), (m1, .inl (cI, 40, .inl mn)), (m2, .inl (cI, 160, .inl tg)), (s1, .inl (cL, 40, .inr (.inl ms))), (v1, .inl (cL, 40, .inr (.inl ov))), (h1, .inl (cL, 40, .inr (.inl be))), (d1, .inl (cL, 40, .inr (.inl rd))), (e1, .inl (cL, 40, .inr (.inl ed)))] := hD
  refine lv_iload_n hx hb dM_target_5 rfl (lv_at hl 1 rfl) ?_
  refine vp_callSi (W.runS (As := [.int (nI k)]) (rest := []) ⟨hx, hb, hml, hown, hT⟩ (m_isB1 l k (by omega)) (cwS 1 hT g_M_40 rfl rfl rfl (by decide +kernel) ⟨Nat.le_of_ble_eq_true rfl, Nat.le_of_ble_eq_true rfl⟩) preEq rfl rfl hl.1 rfl (lv_room (Nat.le_of_ble_eq_true rfl)) dM_target_6 ⟨Nat.le_of_ble_eq_true rfl, Nat.le_of_ble_eq_true rfl⟩) (fun r_1 hr_1 => ?_)
  rw [hr_1]; clear hr_1
  refine lv_if_eq (tgt := 40) hx hb dM_target_9 (by decide) (fun c_2 => ?_) (fun c_2 => ?_)
  · skip
    exact absurd c_2 (by decide)
  · skip
    refine lv_iload_n hx hb dM_target_12 rfl (lv_at hl 2 rfl) ?_
    refine vp_callSi (W.runS (As := [.int (nI j)]) (rest := []) ⟨hx, hb, hml, hown, hT⟩ (m_isB1 l j (by omega)) (cwS 1 hT g_M_40 rfl rfl rfl (by decide +kernel) ⟨Nat.le_of_ble_eq_true rfl, Nat.le_of_ble_eq_true rfl⟩) preEq rfl rfl hl.1 rfl (lv_room (Nat.le_of_ble_eq_true rfl)) dM_target_13 ⟨Nat.le_of_ble_eq_true rfl, Nat.le_of_ble_eq_true rfl⟩) (fun r_3 hr_3 => ?_)
    rw [hr_3]; clear hr_3
    refine lv_if_eq (tgt := 40) hx hb dM_target_16 (by decide) (fun c_4 => ?_) (fun c_4 => ?_)
    · skip
      exact absurd c_4 (by decide)
    · skip
      refine lv_aload_n hx hb dM_target_19 rfl (lv_at hl 0 rfl) ?_
      refine va_get (D := (dC, dI)) (ci := 3) (v := .long T) (C := RM) (T := TM) (N := 15) hx hb hT inM hown hK hP 0 rfl rfl 1 (by decide) (hT _ hw_339) (fun _ h9 => h9) rfl dM_target_20 ?_
      refine lv_iload_n hx hb dM_target_23 rfl (lv_at hl 1 rfl) ?_
      refine vp_callSi (W.runS (As := [.long T, .int (nI k)]) (rest := []) ⟨hx, hb, hml, hown, hT⟩ (m_is l T k (by omega)) (cwS 2 hT g_M_36 rfl rfl rfl (by decide +kernel) ⟨Nat.le_of_ble_eq_true rfl, Nat.le_of_ble_eq_true rfl⟩) preEq rfl rfl hl.1 rfl (lv_room (Nat.le_of_ble_eq_true rfl)) dM_target_24 ⟨Nat.le_of_ble_eq_true rfl, Nat.le_of_ble_eq_true rfl⟩) (fun r_5 hr_5 => ?_)
      rw [hr_5]; clear hr_5
      refine lv_if_eq (tgt := 40) hx hb dM_target_27 (by decide) (fun c_6 => ?_) (fun c_6 => ?_)
      · skip
        have c_6 := bw_i0.mp c_6
        refine lv_iconst (v := 0) hx hb dM_target_40 (by decide) ?_
        have hP9 := hP.sub (ws' := [(y, .inr (3, [.int 0, .long T, .ref m1, .ref m2, .int kn, .ref s1, .long re, .long gd, .long en, .ref v1, .ref h1, .long he, .ref d1, .ref e1, .int pl])), (m1, .inl (cI, 40, .inl mn)), (m2, .inl (cI, 160, .inl tg)), (s1, .inl (cL, 40, .inr (.inl ms))), (v1, .inl (cL, 40, .inr (.inl ov))), (h1, .inl (cL, 40, .inr (.inl be))), (d1, .inl (cL, 40, .inr (.inl rd))), (e1, .inl (cL, 40, .inr (.inl ed)))]) [0, 1, 2, 3, 4, 5, 6, 7] rfl
        have hD9 := hD.sub (ws' := [(y, .inr (3, [.int 0, .long T, .ref m1, .ref m2, .int kn, .ref s1, .long re, .long gd, .long en, .ref v1, .ref h1, .long he, .ref d1, .ref e1, .int pl])), (m1, .inl (cI, 40, .inl mn)), (m2, .inl (cI, 160, .inl tg)), (s1, .inl (cL, 40, .inr (.inl ms))), (v1, .inl (cL, 40, .inr (.inl ov))), (h1, .inl (cL, 40, .inr (.inl be))), (d1, .inl (cL, 40, .inr (.inl rd))), (e1, .inl (cL, 40, .inr (.inl ed)))]) [0, 1, 2, 3, 4, 5, 6, 7] (by decide) rfl
        exact W.zret (v := 0) hx hb hr rfl (fun t9 ht9 hW9 => ⟨⟨_, (), rfl, rfl, by rw [ht9]; exact hP9, by exact hD9⟩, hS.F ht9⟩) hS.2.2 dM_target_41
      · skip
        have c_6 := bw_in0 c_6
        rw [hT9] at c_6; cases c_6
set_option maxHeartbeats 4000000 in
set_option maxRecDepth 100000 in
theorem m_targetD (l : Launch) (dC : Nat → ClassId) (dI : Nat → Nat → Nat) (y m1 m2 s1 v1 h1 d1 e1 : Nat) (cI cL : ClassId) (tw : Int32) (T : Int64) (mn tg : Nat → Int32) (kn : Int32) (ms : Nat → Int64) (re gd en : Int64) (ov be : Nat → Int64) (he : Int64) (rd ed : Nat → Int64) (pl : Int32) (k : Nat) (hk : k < 40) (j : Nat) (hj : j < 40) (hT9 : bw_m T k = true) (n : Nat) (hn : mn k = nI n) (hn4 : n = 4) (sz : Nat) : Met l yM_target wsM_target ({ frames := 1, cells := 0, slots := 0, locals := 22 } : Room) (bw_Wr (dC, dI) [(cI, .int), (cL, .long)] [(y, .inr (3, [.int tw, .long T, .ref m1, .ref m2, .int kn, .ref s1, .long re, .long gd, .long en, .ref v1, .ref h1, .long he, .ref d1, .ref e1, .int pl])), (m1, .inl (cI, 40, .inl mn)), (m2, .inl (cI, 160, .inl tg)), (s1, .inl (cL, 40, .inr (.inl ms))), (v1, .inl (cL, 40, .inr (.inl ov))), (h1, .inl (cL, 40, .inr (.inl be))), (d1, .inl (cL, 40, .inr (.inl rd))), (e1, .inl (cL, 40, .inr (.inl ed)))] sz [.ref y, .int (nI k), .int (nI j)]) (va_Qi (S := Unit) (fun r _ => r = 0) (fun (_ : Unit) t => va_P (dC, dI) vwCl [(y, .inr (3, [.int 0, .long T, .ref m1, .ref m2, .int kn, .ref s1, .long re, .long gd, .long en, .ref v1, .ref h1, .long he, .ref d1, .ref e1, .int pl])), (m1, .inl (cI, 40, .inl mn)), (m2, .inl (cI, 160, .inl tg)), (s1, .inl (cL, 40, .inr (.inl ms))), (v1, .inl (cL, 40, .inr (.inl ov))), (h1, .inl (cL, 40, .inr (.inl be))), (d1, .inl (cL, 40, .inr (.inl rd))), (e1, .inl (cL, 40, .inr (.inl ed)))] t.heap ∧ va_D (va_A [(y, .inr (3, [.int tw, .long T, .ref m1, .ref m2, .int kn, .ref s1, .long re, .long gd, .long en, .ref v1, .ref h1, .long he, .ref d1, .ref e1, .int pl])), (m1, .inl (cI, 40, .inl mn)), (m2, .inl (cI, 160, .inl tg)), (s1, .inl (cL, 40, .inr (.inl ms))), (v1, .inl (cL, 40, .inr (.inl ov))), (h1, .inl (cL, 40, .inr (.inl be))), (d1, .inl (cL, 40, .inr (.inl rd))), (e1, .inl (cL, 40, .inr (.inl ed)))] sz) [(y, .inr (3, [.int 0, .long T, .ref m1, .ref m2, .int kn, .ref s1, .long re, .long gd, .long en, .ref v1, .ref h1, .long he, .ref d1, .ref e1, .int pl])), (m1, .inl (cI, 40, .inl mn)), (m2, .inl (cI, 160, .inl tg)), (s1, .inl (cL, 40, .inr (.inl ms))), (v1, .inl (cL, 40, .inr (.inl ov))), (h1, .inl (cL, 40, .inr (.inl be))), (d1, .inl (cL, 40, .inr (.inl rd))), (e1, .inl (cL, 40, .inr (.inl ed)))]) (va_A [(y, .inr (3, [.int tw, .long T, .ref m1, .ref m2, .int kn, .ref s1, .long re, .long gd, .long en, .ref v1, .ref h1, .long he, .ref d1, .ref e1, .int pl])), (m1, .inl (cI, 40, .inl mn)), (m2, .inl (cI, 160, .inl tg)), (s1, .inl (cL, 40, .inr (.inl ms))), (v1, .inl (cL, 40, .inr (.inl ov))), (h1, .inl (cL, 40, .inr (.inl be))), (d1, .inl (cL, 40, .inr (.inl rd))), (e1, .inl (cL, 40, .inr (.inl ed)))] sz)) 0 0 (va_A [(y, .inr (3, [.int tw, .long T, .ref m1, .ref m2, .int kn, .ref s1, .long re, .long gd, .long en, .ref v1, .ref h1, .long he, .ref d1, .ref e1, .int pl])), (m1, .inl (cI, 40, .inl mn)), (m2, .inl (cI, 160, .inl tg)), (s1, .inl (cL, 40, .inr (.inl ms))), (v1, .inl (cL, 40, .inr (.inl ov))), (h1, .inl (cL, 40, .inr (.inl be))), (d1, .inl (cL, 40, .inr (.inl rd))), (e1, .inl (cL, 40, .inr (.inl ed)))] sz) := by
  refine Met.ofW (cc := cM_target) (maxL := 3) (ret := (some .boolean)) (by decide) rfl ?_
  intro p e s m args below meth c s₁ B hml hv
  obtain ⟨rfl, hsz, hP, hK, hN, hD0⟩ := hv
  have hx := B.exec
  have hb := B.bytes
  have hr := B.returns
  have hts := atoms_spec (ws := wsM_target) B.pre
  have hT : ∀ w ∈ bwB, w.before _ s = true := fun w h => hts w (List.mem_cons_of_mem _ h)
  have hown : s.vm.findClass RM = some m.cls := findClass_of_methodNamed B.named
  have hlocks := B.notSynchronized
  subst hsz
  have hD := hD0.self (sz := s.heap.size)
  generalize hAe : va_A [(y, .inr (3, [.int tw, .long T, .ref m1, .ref m2, .int kn, .ref s1, .long re, .long gd, .long en, .ref v1, .ref h1, .long he, .ref d1, .ref e1, .int pl])), (m1, .inl (cI, 40, .inl mn)), (m2, .inl (cI, 160, .inl tg)), (s1, .inl (cL, 40, .inr (.inl ms))), (v1, .inl (cL, 40, .inr (.inl ov))), (h1, .inl (cL, 40, .inr (.inl be))), (d1, .inl (cL, 40, .inr (.inl rd))), (e1, .inl (cL, 40, .inr (.inl ed)))] s.heap.size = A at hD ⊢
  have hA : ∀ q : Nat, s.heap.size ≤ q → A q := fun q h => by rw [← hAe]; exact Or.inr h
  have hS : va_S A s.heap s.heap [] := va_S.rf
  have hP : va_P (dC, dI) vwCl [(y, .inr (3, [.int tw, .long T, .ref m1, .ref m2, .int kn, .ref s1, .long re, .long gd, .long en, .ref v1, .ref h1, .long he, .ref d1, .ref e1, .int pl])), (m1, .inl (cI, 40, .inl mn)), (m2, .inl (cI, 160, .inl tg)), (s1, .inl (cL, 40, .inr (.inl ms))), (v1, .inl (cL, 40, .inr (.inl ov))), (h1, .inl (cL, 40, .inr (.inl be))), (d1, .inl (cL, 40, .inr (.inl rd))), (e1, .inl (cL, 40, .inr (.inl ed)))] s.heap := hP
  have hl := lv_entry ([.ref y, .int (nI k), .int (nI j)]) (n := 3) (Nat.le_of_ble_eq_true rfl)
  rw [lg_entry_eq]
  generalize (lg_sl ([.ref y, .int (nI k), .int (nI j)]) ++ List.replicate (3 - (lg_sl ([.ref y, .int (nI k), .int (nI j)])).length) Slot.unset).toArray = ls at hl ⊢
  have hl : lv_has ls 3 [(0, .ref y), (1, .int (nI k)), (2, .int (nI j))] := hl
  refine lv_aload_n hx hb dM_target_0 rfl (lv_at hl 0 rfl) ?_
  refine lv_iconst (v := 0) hx hb dM_target_1 (by decide) ?_
  refine va_put (D := (dC, dI)) (ci := 3) (v := .int 0) (ty := .int) (C := RM) (T := TM) (N := 15) hx hb hT inM tyM tokM nmM hown hK hP hD hS 0 rfl rfl 0 (by decide) (hT _ hw_338) (fun _ h9 => h9) rfl (by decide +kernel) rfl rfl (Nat.le_of_ble_eq_true rfl) dM_target_2 (fun H locs hP hD hS => ?_)
  have hP : va_P (dC, dI) vwCl [(y, .inr (3, [.int 0, .long T, .ref m1, .ref m2, .int kn, .ref s1, .long re, .long gd, .long en, .ref v1, .ref h1, .long he, .ref d1, .ref e1, .int pl])), (m1, .inl (cI, 40, .inl mn)), (m2, .inl (cI, 160, .inl tg)), (s1, .inl (cL, 40, .inr (.inl ms))), (v1, .inl (cL, 40, .inr (.inl ov))), (h1, .inl (cL, 40, .inr (.inl be))), (d1, .inl (cL, 40, .inr (.inl rd))), (e1, .inl (cL, 40, .inr (.inl ed)))] H := hP
  have hD : va_D A [(y, .inr (3, [.int 0, .long T, .ref m1, .ref m2, .int kn, .ref s1, .long re, .long gd, .long en, .ref v1, .ref h1, .long he, .ref d1, .ref e1, .int pl])), (m1, .inl (cI, 40, .inl mn)), (m2, .inl (cI, 160, .inl tg)), (s1, .inl (cL, 40, .inr (.inl ms))), (v1, .inl (cL, 40, .inr (.inl ov))), (h1, .inl (cL, 40, .inr (.inl be))), (d1, .inl (cL, 40, .inr (.inl rd))), (e1, .inl (cL, 40, .inr (.inl ed)))] := hD
  refine lv_iload_n hx hb dM_target_5 rfl (lv_at hl 1 rfl) ?_
  refine vp_callSi (W.runS (As := [.int (nI k)]) (rest := []) ⟨hx, hb, hml, hown, hT⟩ (m_isB1 l k (by omega)) (cwS 1 hT g_M_40 rfl rfl rfl (by decide +kernel) ⟨Nat.le_of_ble_eq_true rfl, Nat.le_of_ble_eq_true rfl⟩) preEq rfl rfl hl.1 rfl (lv_room (Nat.le_of_ble_eq_true rfl)) dM_target_6 ⟨Nat.le_of_ble_eq_true rfl, Nat.le_of_ble_eq_true rfl⟩) (fun r_1 hr_1 => ?_)
  rw [hr_1]; clear hr_1
  refine lv_if_eq (tgt := 40) hx hb dM_target_9 (by decide) (fun c_2 => ?_) (fun c_2 => ?_)
  · skip
    exact absurd c_2 (by decide)
  · skip
    refine lv_iload_n hx hb dM_target_12 rfl (lv_at hl 2 rfl) ?_
    refine vp_callSi (W.runS (As := [.int (nI j)]) (rest := []) ⟨hx, hb, hml, hown, hT⟩ (m_isB1 l j (by omega)) (cwS 1 hT g_M_40 rfl rfl rfl (by decide +kernel) ⟨Nat.le_of_ble_eq_true rfl, Nat.le_of_ble_eq_true rfl⟩) preEq rfl rfl hl.1 rfl (lv_room (Nat.le_of_ble_eq_true rfl)) dM_target_13 ⟨Nat.le_of_ble_eq_true rfl, Nat.le_of_ble_eq_true rfl⟩) (fun r_3 hr_3 => ?_)
    rw [hr_3]; clear hr_3
    refine lv_if_eq (tgt := 40) hx hb dM_target_16 (by decide) (fun c_4 => ?_) (fun c_4 => ?_)
    · skip
      exact absurd c_4 (by decide)
    · skip
      refine lv_aload_n hx hb dM_target_19 rfl (lv_at hl 0 rfl) ?_
      refine va_get (D := (dC, dI)) (ci := 3) (v := .long T) (C := RM) (T := TM) (N := 15) hx hb hT inM hown hK hP 0 rfl rfl 1 (by decide) (hT _ hw_339) (fun _ h9 => h9) rfl dM_target_20 ?_
      refine lv_iload_n hx hb dM_target_23 rfl (lv_at hl 1 rfl) ?_
      refine vp_callSi (W.runS (As := [.long T, .int (nI k)]) (rest := []) ⟨hx, hb, hml, hown, hT⟩ (m_is l T k (by omega)) (cwS 2 hT g_M_36 rfl rfl rfl (by decide +kernel) ⟨Nat.le_of_ble_eq_true rfl, Nat.le_of_ble_eq_true rfl⟩) preEq rfl rfl hl.1 rfl (lv_room (Nat.le_of_ble_eq_true rfl)) dM_target_24 ⟨Nat.le_of_ble_eq_true rfl, Nat.le_of_ble_eq_true rfl⟩) (fun r_5 hr_5 => ?_)
      rw [hr_5]; clear hr_5
      refine lv_if_eq (tgt := 40) hx hb dM_target_27 (by decide) (fun c_6 => ?_) (fun c_6 => ?_)
      · skip
        have c_6 := bw_i0.mp c_6
        rw [hT9] at c_6; cases c_6
      · skip
        have c_6 := bw_in0 c_6
        refine lv_aload_n hx hb dM_target_30 rfl (lv_at hl 0 rfl) ?_
        refine va_get (D := (dC, dI)) (ci := 3) (v := .ref m1) (C := RM) (T := TM) (N := 15) hx hb hT inM hown hK hP 0 rfl rfl 2 (by decide) (hT _ hw_340) (fun _ h9 => h9) rfl dM_target_31 ?_
        refine lv_iload_n hx hb dM_target_34 rfl (lv_at hl 1 rfl) ?_
        refine bw_iald hx hb hK hP 1 0 (k := k) rfl rfl (by omega) (by decide) dM_target_35 ?_
        rw [hn]
        refine lv_iconst (v := nI 4) hx hb dM_target_36 (by decide) ?_
        refine lv_icmp_ne (tgt := 42) hx hb dM_target_37 (by decide) (fun c_7 => ?_) (fun c_7 => ?_)
        · skip
          have c_7 : ¬ n = 4 := fun z => c_7 ((nI_eq (a := n) (b := 4) (by omega) (by omega)).mpr z)
          exact absurd c_7 (by omega)
        · skip
          have c_7 : n = 4 := (nI_eq (a := n) (b := 4) (by omega) (by omega)).mp c_7
          refine lv_iconst (v := 0) hx hb dM_target_40 (by decide) ?_
          have hP9 := hP.sub (ws' := [(y, .inr (3, [.int 0, .long T, .ref m1, .ref m2, .int kn, .ref s1, .long re, .long gd, .long en, .ref v1, .ref h1, .long he, .ref d1, .ref e1, .int pl])), (m1, .inl (cI, 40, .inl mn)), (m2, .inl (cI, 160, .inl tg)), (s1, .inl (cL, 40, .inr (.inl ms))), (v1, .inl (cL, 40, .inr (.inl ov))), (h1, .inl (cL, 40, .inr (.inl be))), (d1, .inl (cL, 40, .inr (.inl rd))), (e1, .inl (cL, 40, .inr (.inl ed)))]) [0, 1, 2, 3, 4, 5, 6, 7] rfl
          have hD9 := hD.sub (ws' := [(y, .inr (3, [.int 0, .long T, .ref m1, .ref m2, .int kn, .ref s1, .long re, .long gd, .long en, .ref v1, .ref h1, .long he, .ref d1, .ref e1, .int pl])), (m1, .inl (cI, 40, .inl mn)), (m2, .inl (cI, 160, .inl tg)), (s1, .inl (cL, 40, .inr (.inl ms))), (v1, .inl (cL, 40, .inr (.inl ov))), (h1, .inl (cL, 40, .inr (.inl be))), (d1, .inl (cL, 40, .inr (.inl rd))), (e1, .inl (cL, 40, .inr (.inl ed)))]) [0, 1, 2, 3, 4, 5, 6, 7] (by decide) rfl
          exact W.zret (v := 0) hx hb hr rfl (fun t9 ht9 hW9 => ⟨⟨_, (), rfl, rfl, by rw [ht9]; exact hP9, by exact hD9⟩, hS.F ht9⟩) hS.2.2 dM_target_41
set_option maxHeartbeats 4000000 in
set_option maxRecDepth 100000 in
theorem m_targetE (l : Launch) (dC : Nat → ClassId) (dI : Nat → Nat → Nat) (y m1 m2 s1 v1 h1 d1 e1 : Nat) (cI cL : ClassId) (tw : Int32) (T : Int64) (mn tg : Nat → Int32) (kn : Int32) (ms : Nat → Int64) (re gd en : Int64) (ov be : Nat → Int64) (he : Int64) (rd ed : Nat → Int64) (pl : Int32) (k : Nat) (hk : k < 40) (j : Nat) (hj : j < 40) (hT9 : bw_m T k = true) (n : Nat) (hn : mn k = nI n) (hn4 : n < 4) (sz : Nat) : Met l yM_target wsM_target ({ frames := 1, cells := 0, slots := 0, locals := 22 } : Room) (bw_Wr (dC, dI) [(cI, .int), (cL, .long)] [(y, .inr (3, [.int tw, .long T, .ref m1, .ref m2, .int kn, .ref s1, .long re, .long gd, .long en, .ref v1, .ref h1, .long he, .ref d1, .ref e1, .int pl])), (m1, .inl (cI, 40, .inl mn)), (m2, .inl (cI, 160, .inl tg)), (s1, .inl (cL, 40, .inr (.inl ms))), (v1, .inl (cL, 40, .inr (.inl ov))), (h1, .inl (cL, 40, .inr (.inl be))), (d1, .inl (cL, 40, .inr (.inl rd))), (e1, .inl (cL, 40, .inr (.inl ed)))] sz [.ref y, .int (nI k), .int (nI j)]) (va_Qi (S := Unit) (fun r _ => r = 1) (fun (_ : Unit) t => va_P (dC, dI) vwCl [(y, .inr (3, [.int 0, .long T, .ref m1, .ref m2, .int 0, .ref s1, .long re, .long gd, .long en, .ref v1, .ref h1, .long he, .ref d1, .ref e1, .int pl])), (m1, .inl (cI, 40, .inl (upd mn k (nI (n + 1))))), (m2, .inl (cI, 160, .inl (upd tg (4 * k + n) (nI j)))), (s1, .inl (cL, 40, .inr (.inl ms))), (v1, .inl (cL, 40, .inr (.inl ov))), (h1, .inl (cL, 40, .inr (.inl be))), (d1, .inl (cL, 40, .inr (.inl rd))), (e1, .inl (cL, 40, .inr (.inl ed)))] t.heap ∧ va_D (va_A [(y, .inr (3, [.int tw, .long T, .ref m1, .ref m2, .int kn, .ref s1, .long re, .long gd, .long en, .ref v1, .ref h1, .long he, .ref d1, .ref e1, .int pl])), (m1, .inl (cI, 40, .inl mn)), (m2, .inl (cI, 160, .inl tg)), (s1, .inl (cL, 40, .inr (.inl ms))), (v1, .inl (cL, 40, .inr (.inl ov))), (h1, .inl (cL, 40, .inr (.inl be))), (d1, .inl (cL, 40, .inr (.inl rd))), (e1, .inl (cL, 40, .inr (.inl ed)))] sz) [(y, .inr (3, [.int 0, .long T, .ref m1, .ref m2, .int 0, .ref s1, .long re, .long gd, .long en, .ref v1, .ref h1, .long he, .ref d1, .ref e1, .int pl])), (m1, .inl (cI, 40, .inl (upd mn k (nI (n + 1))))), (m2, .inl (cI, 160, .inl (upd tg (4 * k + n) (nI j)))), (s1, .inl (cL, 40, .inr (.inl ms))), (v1, .inl (cL, 40, .inr (.inl ov))), (h1, .inl (cL, 40, .inr (.inl be))), (d1, .inl (cL, 40, .inr (.inl rd))), (e1, .inl (cL, 40, .inr (.inl ed)))]) (va_A [(y, .inr (3, [.int tw, .long T, .ref m1, .ref m2, .int kn, .ref s1, .long re, .long gd, .long en, .ref v1, .ref h1, .long he, .ref d1, .ref e1, .int pl])), (m1, .inl (cI, 40, .inl mn)), (m2, .inl (cI, 160, .inl tg)), (s1, .inl (cL, 40, .inr (.inl ms))), (v1, .inl (cL, 40, .inr (.inl ov))), (h1, .inl (cL, 40, .inr (.inl be))), (d1, .inl (cL, 40, .inr (.inl rd))), (e1, .inl (cL, 40, .inr (.inl ed)))] sz)) 0 0 (va_A [(y, .inr (3, [.int tw, .long T, .ref m1, .ref m2, .int kn, .ref s1, .long re, .long gd, .long en, .ref v1, .ref h1, .long he, .ref d1, .ref e1, .int pl])), (m1, .inl (cI, 40, .inl mn)), (m2, .inl (cI, 160, .inl tg)), (s1, .inl (cL, 40, .inr (.inl ms))), (v1, .inl (cL, 40, .inr (.inl ov))), (h1, .inl (cL, 40, .inr (.inl be))), (d1, .inl (cL, 40, .inr (.inl rd))), (e1, .inl (cL, 40, .inr (.inl ed)))] sz) := by
  refine Met.ofW (cc := cM_target) (maxL := 3) (ret := (some .boolean)) (by decide) rfl ?_
  intro p e s m args below meth c s₁ B hml hv
  obtain ⟨rfl, hsz, hP, hK, hN, hD0⟩ := hv
  have hx := B.exec
  have hb := B.bytes
  have hr := B.returns
  have hts := atoms_spec (ws := wsM_target) B.pre
  have hT : ∀ w ∈ bwB, w.before _ s = true := fun w h => hts w (List.mem_cons_of_mem _ h)
  have hown : s.vm.findClass RM = some m.cls := findClass_of_methodNamed B.named
  have hlocks := B.notSynchronized
  subst hsz
  have hD := hD0.self (sz := s.heap.size)
  generalize hAe : va_A [(y, .inr (3, [.int tw, .long T, .ref m1, .ref m2, .int kn, .ref s1, .long re, .long gd, .long en, .ref v1, .ref h1, .long he, .ref d1, .ref e1, .int pl])), (m1, .inl (cI, 40, .inl mn)), (m2, .inl (cI, 160, .inl tg)), (s1, .inl (cL, 40, .inr (.inl ms))), (v1, .inl (cL, 40, .inr (.inl ov))), (h1, .inl (cL, 40, .inr (.inl be))), (d1, .inl (cL, 40, .inr (.inl rd))), (e1, .inl (cL, 40, .inr (.inl ed)))] s.heap.size = A at hD ⊢
  have hA : ∀ q : Nat, s.heap.size ≤ q → A q := fun q h => by rw [← hAe]; exact Or.inr h
  have hS : va_S A s.heap s.heap [] := va_S.rf
  have hP : va_P (dC, dI) vwCl [(y, .inr (3, [.int tw, .long T, .ref m1, .ref m2, .int kn, .ref s1, .long re, .long gd, .long en, .ref v1, .ref h1, .long he, .ref d1, .ref e1, .int pl])), (m1, .inl (cI, 40, .inl mn)), (m2, .inl (cI, 160, .inl tg)), (s1, .inl (cL, 40, .inr (.inl ms))), (v1, .inl (cL, 40, .inr (.inl ov))), (h1, .inl (cL, 40, .inr (.inl be))), (d1, .inl (cL, 40, .inr (.inl rd))), (e1, .inl (cL, 40, .inr (.inl ed)))] s.heap := hP
  have hl := lv_entry ([.ref y, .int (nI k), .int (nI j)]) (n := 3) (Nat.le_of_ble_eq_true rfl)
  rw [lg_entry_eq]
  generalize (lg_sl ([.ref y, .int (nI k), .int (nI j)]) ++ List.replicate (3 - (lg_sl ([.ref y, .int (nI k), .int (nI j)])).length) Slot.unset).toArray = ls at hl ⊢
  have hl : lv_has ls 3 [(0, .ref y), (1, .int (nI k)), (2, .int (nI j))] := hl
  refine lv_aload_n hx hb dM_target_0 rfl (lv_at hl 0 rfl) ?_
  refine lv_iconst (v := 0) hx hb dM_target_1 (by decide) ?_
  refine va_put (D := (dC, dI)) (ci := 3) (v := .int 0) (ty := .int) (C := RM) (T := TM) (N := 15) hx hb hT inM tyM tokM nmM hown hK hP hD hS 0 rfl rfl 0 (by decide) (hT _ hw_338) (fun _ h9 => h9) rfl (by decide +kernel) rfl rfl (Nat.le_of_ble_eq_true rfl) dM_target_2 (fun H locs hP hD hS => ?_)
  have hP : va_P (dC, dI) vwCl [(y, .inr (3, [.int 0, .long T, .ref m1, .ref m2, .int kn, .ref s1, .long re, .long gd, .long en, .ref v1, .ref h1, .long he, .ref d1, .ref e1, .int pl])), (m1, .inl (cI, 40, .inl mn)), (m2, .inl (cI, 160, .inl tg)), (s1, .inl (cL, 40, .inr (.inl ms))), (v1, .inl (cL, 40, .inr (.inl ov))), (h1, .inl (cL, 40, .inr (.inl be))), (d1, .inl (cL, 40, .inr (.inl rd))), (e1, .inl (cL, 40, .inr (.inl ed)))] H := hP
  have hD : va_D A [(y, .inr (3, [.int 0, .long T, .ref m1, .ref m2, .int kn, .ref s1, .long re, .long gd, .long en, .ref v1, .ref h1, .long he, .ref d1, .ref e1, .int pl])), (m1, .inl (cI, 40, .inl mn)), (m2, .inl (cI, 160, .inl tg)), (s1, .inl (cL, 40, .inr (.inl ms))), (v1, .inl (cL, 40, .inr (.inl ov))), (h1, .inl (cL, 40, .inr (.inl be))), (d1, .inl (cL, 40, .inr (.inl rd))), (e1, .inl (cL, 40, .inr (.inl ed)))] := hD
  refine lv_iload_n hx hb dM_target_5 rfl (lv_at hl 1 rfl) ?_
  refine vp_callSi (W.runS (As := [.int (nI k)]) (rest := []) ⟨hx, hb, hml, hown, hT⟩ (m_isB1 l k (by omega)) (cwS 1 hT g_M_40 rfl rfl rfl (by decide +kernel) ⟨Nat.le_of_ble_eq_true rfl, Nat.le_of_ble_eq_true rfl⟩) preEq rfl rfl hl.1 rfl (lv_room (Nat.le_of_ble_eq_true rfl)) dM_target_6 ⟨Nat.le_of_ble_eq_true rfl, Nat.le_of_ble_eq_true rfl⟩) (fun r_1 hr_1 => ?_)
  rw [hr_1]; clear hr_1
  refine lv_if_eq (tgt := 40) hx hb dM_target_9 (by decide) (fun c_2 => ?_) (fun c_2 => ?_)
  · skip
    exact absurd c_2 (by decide)
  · skip
    refine lv_iload_n hx hb dM_target_12 rfl (lv_at hl 2 rfl) ?_
    refine vp_callSi (W.runS (As := [.int (nI j)]) (rest := []) ⟨hx, hb, hml, hown, hT⟩ (m_isB1 l j (by omega)) (cwS 1 hT g_M_40 rfl rfl rfl (by decide +kernel) ⟨Nat.le_of_ble_eq_true rfl, Nat.le_of_ble_eq_true rfl⟩) preEq rfl rfl hl.1 rfl (lv_room (Nat.le_of_ble_eq_true rfl)) dM_target_13 ⟨Nat.le_of_ble_eq_true rfl, Nat.le_of_ble_eq_true rfl⟩) (fun r_3 hr_3 => ?_)
    rw [hr_3]; clear hr_3
    refine lv_if_eq (tgt := 40) hx hb dM_target_16 (by decide) (fun c_4 => ?_) (fun c_4 => ?_)
    · skip
      exact absurd c_4 (by decide)
    · skip
      refine lv_aload_n hx hb dM_target_19 rfl (lv_at hl 0 rfl) ?_
      refine va_get (D := (dC, dI)) (ci := 3) (v := .long T) (C := RM) (T := TM) (N := 15) hx hb hT inM hown hK hP 0 rfl rfl 1 (by decide) (hT _ hw_339) (fun _ h9 => h9) rfl dM_target_20 ?_
      refine lv_iload_n hx hb dM_target_23 rfl (lv_at hl 1 rfl) ?_
      refine vp_callSi (W.runS (As := [.long T, .int (nI k)]) (rest := []) ⟨hx, hb, hml, hown, hT⟩ (m_is l T k (by omega)) (cwS 2 hT g_M_36 rfl rfl rfl (by decide +kernel) ⟨Nat.le_of_ble_eq_true rfl, Nat.le_of_ble_eq_true rfl⟩) preEq rfl rfl hl.1 rfl (lv_room (Nat.le_of_ble_eq_true rfl)) dM_target_24 ⟨Nat.le_of_ble_eq_true rfl, Nat.le_of_ble_eq_true rfl⟩) (fun r_5 hr_5 => ?_)
      rw [hr_5]; clear hr_5
      refine lv_if_eq (tgt := 40) hx hb dM_target_27 (by decide) (fun c_6 => ?_) (fun c_6 => ?_)
      · skip
        have c_6 := bw_i0.mp c_6
        rw [hT9] at c_6; cases c_6
      · skip
        have c_6 := bw_in0 c_6
        refine lv_aload_n hx hb dM_target_30 rfl (lv_at hl 0 rfl) ?_
        refine va_get (D := (dC, dI)) (ci := 3) (v := .ref m1) (C := RM) (T := TM) (N := 15) hx hb hT inM hown hK hP 0 rfl rfl 2 (by decide) (hT _ hw_340) (fun _ h9 => h9) rfl dM_target_31 ?_
        refine lv_iload_n hx hb dM_target_34 rfl (lv_at hl 1 rfl) ?_
        refine bw_iald hx hb hK hP 1 0 (k := k) rfl rfl (by omega) (by decide) dM_target_35 ?_
        rw [hn]
        refine lv_iconst (v := nI 4) hx hb dM_target_36 (by decide) ?_
        refine lv_icmp_ne (tgt := 42) hx hb dM_target_37 (by decide) (fun c_7 => ?_) (fun c_7 => ?_)
        · skip
          have c_7 : ¬ n = 4 := fun z => c_7 ((nI_eq (a := n) (b := 4) (by omega) (by omega)).mpr z)
          refine lv_aload_n hx hb dM_target_42 rfl (lv_at hl 0 rfl) ?_
          refine va_get (D := (dC, dI)) (ci := 3) (v := .ref m2) (C := RM) (T := TM) (N := 15) hx hb hT inM hown hK hP 0 rfl rfl 3 (by decide) (hT _ hw_341) (fun _ h9 => h9) rfl dM_target_43 ?_
          refine lv_iconst (v := nI 4) hx hb dM_target_46 (by decide) ?_
          refine lv_iload_n hx hb dM_target_47 rfl (lv_at hl 1 rfl) ?_
          refine lv_imul hx hb dM_target_48 ?_
          rw [pk_mul 4 k]
          refine lv_aload_n hx hb dM_target_49 rfl (lv_at hl 0 rfl) ?_
          refine va_get (D := (dC, dI)) (ci := 3) (v := .ref m1) (C := RM) (T := TM) (N := 15) hx hb hT inM hown hK hP 0 rfl rfl 2 (by decide) (hT _ hw_340) (fun _ h9 => h9) rfl dM_target_50 ?_
          refine lv_iload_n hx hb dM_target_53 rfl (lv_at hl 1 rfl) ?_
          refine bw_iald hx hb hK hP 1 0 (k := k) rfl rfl (by omega) (by decide) dM_target_54 ?_
          rw [hn]
          refine lv_iadd hx hb dM_target_55 ?_
          rw [nI_add (4 * k) n]
          refine lv_iload_n hx hb dM_target_56 rfl (lv_at hl 2 rfl) ?_
          refine bw_iast hx hb hK hP hD hS 2 0 (k := (4 * k + n)) rfl rfl (by omega) (by decide) dM_target_57 (fun H locs hP hD hS => ?_)
          have hP : va_P (dC, dI) vwCl [(y, .inr (3, [.int 0, .long T, .ref m1, .ref m2, .int kn, .ref s1, .long re, .long gd, .long en, .ref v1, .ref h1, .long he, .ref d1, .ref e1, .int pl])), (m1, .inl (cI, 40, .inl mn)), (m2, .inl (cI, 160, .inl (upd tg (4 * k + n) (nI j)))), (s1, .inl (cL, 40, .inr (.inl ms))), (v1, .inl (cL, 40, .inr (.inl ov))), (h1, .inl (cL, 40, .inr (.inl be))), (d1, .inl (cL, 40, .inr (.inl rd))), (e1, .inl (cL, 40, .inr (.inl ed)))] H := hP
          have hD : va_D A [(y, .inr (3, [.int 0, .long T, .ref m1, .ref m2, .int kn, .ref s1, .long re, .long gd, .long en, .ref v1, .ref h1, .long he, .ref d1, .ref e1, .int pl])), (m1, .inl (cI, 40, .inl mn)), (m2, .inl (cI, 160, .inl (upd tg (4 * k + n) (nI j)))), (s1, .inl (cL, 40, .inr (.inl ms))), (v1, .inl (cL, 40, .inr (.inl ov))), (h1, .inl (cL, 40, .inr (.inl be))), (d1, .inl (cL, 40, .inr (.inl rd))), (e1, .inl (cL, 40, .inr (.inl ed)))] := hD
          refine lv_aload_n hx hb dM_target_58 rfl (lv_at hl 0 rfl) ?_
          refine va_get (D := (dC, dI)) (ci := 3) (v := .ref m1) (C := RM) (T := TM) (N := 15) hx hb hT inM hown hK hP 0 rfl rfl 2 (by decide) (hT _ hw_340) (fun _ h9 => h9) rfl dM_target_59 ?_
          refine lv_iload_n hx hb dM_target_62 rfl (lv_at hl 1 rfl) ?_
          refine lv_dup2_11 hx hb dM_target_63 rfl rfl ?_
          refine bw_iald hx hb hK hP 1 0 (k := k) rfl rfl (by omega) (by decide) dM_target_64 ?_
          rw [hn]
          refine lv_iconst (v := 1) hx hb dM_target_65 (by decide) ?_
          refine lv_iadd hx hb dM_target_66 ?_
          rw [nI_1 n]
          refine bw_iast hx hb hK hP hD hS 1 0 (k := k) rfl rfl (by omega) (by decide) dM_target_67 (fun H locs hP hD hS => ?_)
          have hP : va_P (dC, dI) vwCl [(y, .inr (3, [.int 0, .long T, .ref m1, .ref m2, .int kn, .ref s1, .long re, .long gd, .long en, .ref v1, .ref h1, .long he, .ref d1, .ref e1, .int pl])), (m1, .inl (cI, 40, .inl (upd mn k (nI (n + 1))))), (m2, .inl (cI, 160, .inl (upd tg (4 * k + n) (nI j)))), (s1, .inl (cL, 40, .inr (.inl ms))), (v1, .inl (cL, 40, .inr (.inl ov))), (h1, .inl (cL, 40, .inr (.inl be))), (d1, .inl (cL, 40, .inr (.inl rd))), (e1, .inl (cL, 40, .inr (.inl ed)))] H := hP
          have hD : va_D A [(y, .inr (3, [.int 0, .long T, .ref m1, .ref m2, .int kn, .ref s1, .long re, .long gd, .long en, .ref v1, .ref h1, .long he, .ref d1, .ref e1, .int pl])), (m1, .inl (cI, 40, .inl (upd mn k (nI (n + 1))))), (m2, .inl (cI, 160, .inl (upd tg (4 * k + n) (nI j)))), (s1, .inl (cL, 40, .inr (.inl ms))), (v1, .inl (cL, 40, .inr (.inl ov))), (h1, .inl (cL, 40, .inr (.inl be))), (d1, .inl (cL, 40, .inr (.inl rd))), (e1, .inl (cL, 40, .inr (.inl ed)))] := hD
          refine lv_aload_n hx hb dM_target_68 rfl (lv_at hl 0 rfl) ?_
          refine lv_iconst (v := 0) hx hb dM_target_69 (by decide) ?_
          refine va_put (D := (dC, dI)) (ci := 3) (v := .int 0) (ty := .boolean) (C := RM) (T := TM) (N := 15) hx hb hT inM tyM tokM nmM hown hK hP hD hS 0 rfl rfl 4 (by decide) (hT _ hw_342) (fun _ h9 => h9) rfl (by decide +kernel) rfl rfl (Nat.le_of_ble_eq_true rfl) dM_target_70 (fun H locs hP hD hS => ?_)
          have hP : va_P (dC, dI) vwCl [(y, .inr (3, [.int 0, .long T, .ref m1, .ref m2, .int 0, .ref s1, .long re, .long gd, .long en, .ref v1, .ref h1, .long he, .ref d1, .ref e1, .int pl])), (m1, .inl (cI, 40, .inl (upd mn k (nI (n + 1))))), (m2, .inl (cI, 160, .inl (upd tg (4 * k + n) (nI j)))), (s1, .inl (cL, 40, .inr (.inl ms))), (v1, .inl (cL, 40, .inr (.inl ov))), (h1, .inl (cL, 40, .inr (.inl be))), (d1, .inl (cL, 40, .inr (.inl rd))), (e1, .inl (cL, 40, .inr (.inl ed)))] H := hP
          have hD : va_D A [(y, .inr (3, [.int 0, .long T, .ref m1, .ref m2, .int 0, .ref s1, .long re, .long gd, .long en, .ref v1, .ref h1, .long he, .ref d1, .ref e1, .int pl])), (m1, .inl (cI, 40, .inl (upd mn k (nI (n + 1))))), (m2, .inl (cI, 160, .inl (upd tg (4 * k + n) (nI j)))), (s1, .inl (cL, 40, .inr (.inl ms))), (v1, .inl (cL, 40, .inr (.inl ov))), (h1, .inl (cL, 40, .inr (.inl be))), (d1, .inl (cL, 40, .inr (.inl rd))), (e1, .inl (cL, 40, .inr (.inl ed)))] := hD
          refine lv_iconst (v := 1) hx hb dM_target_73 (by decide) ?_
          have hP9 := hP.sub (ws' := [(y, .inr (3, [.int 0, .long T, .ref m1, .ref m2, .int 0, .ref s1, .long re, .long gd, .long en, .ref v1, .ref h1, .long he, .ref d1, .ref e1, .int pl])), (m1, .inl (cI, 40, .inl (upd mn k (nI (n + 1))))), (m2, .inl (cI, 160, .inl (upd tg (4 * k + n) (nI j)))), (s1, .inl (cL, 40, .inr (.inl ms))), (v1, .inl (cL, 40, .inr (.inl ov))), (h1, .inl (cL, 40, .inr (.inl be))), (d1, .inl (cL, 40, .inr (.inl rd))), (e1, .inl (cL, 40, .inr (.inl ed)))]) [0, 1, 2, 3, 4, 5, 6, 7] rfl
          have hD9 := hD.sub (ws' := [(y, .inr (3, [.int 0, .long T, .ref m1, .ref m2, .int 0, .ref s1, .long re, .long gd, .long en, .ref v1, .ref h1, .long he, .ref d1, .ref e1, .int pl])), (m1, .inl (cI, 40, .inl (upd mn k (nI (n + 1))))), (m2, .inl (cI, 160, .inl (upd tg (4 * k + n) (nI j)))), (s1, .inl (cL, 40, .inr (.inl ms))), (v1, .inl (cL, 40, .inr (.inl ov))), (h1, .inl (cL, 40, .inr (.inl be))), (d1, .inl (cL, 40, .inr (.inl rd))), (e1, .inl (cL, 40, .inr (.inl ed)))]) [0, 1, 2, 3, 4, 5, 6, 7] (by decide) rfl
          exact W.zret (v := 1) hx hb hr rfl (fun t9 ht9 hW9 => ⟨⟨_, (), rfl, rfl, by rw [ht9]; exact hP9, by exact hD9⟩, hS.F ht9⟩) hS.2.2 dM_target_74
        · skip
          have c_7 : n = 4 := (nI_eq (a := n) (b := 4) (by omega) (by omega)).mp c_7
          exact absurd c_7 (by omega)
set_option maxHeartbeats 4000000 in
set_option maxRecDepth 100000 in
theorem m_drop0 (l : Launch) (dC : Nat → ClassId) (dI : Nat → Nat → Nat) (y m1 m2 s1 v1 h1 d1 e1 : Nat) (cI cL : ClassId) (tw : Int32) (T : Int64) (mn tg : Nat → Int32) (kn : Int32) (ms : Nat → Int64) (re gd en : Int64) (ov be : Nat → Int64) (he : Int64) (rd ed : Nat → Int64) (pl : Int32) (b : Int32) (hb9 : ∀ k, k < 40 → ¬ b = nI k) (sz : Nat) : Met l yM_drop wsM_drop ({ frames := 1, cells := 0, slots := 0, locals := 20 } : Room) (bw_Wr (dC, dI) [(cI, .int), (cL, .long)] [(y, .inr (3, [.int tw, .long T, .ref m1, .ref m2, .int kn, .ref s1, .long re, .long gd, .long en, .ref v1, .ref h1, .long he, .ref d1, .ref e1, .int pl])), (m1, .inl (cI, 40, .inl mn)), (m2, .inl (cI, 160, .inl tg)), (s1, .inl (cL, 40, .inr (.inl ms))), (v1, .inl (cL, 40, .inr (.inl ov))), (h1, .inl (cL, 40, .inr (.inl be))), (d1, .inl (cL, 40, .inr (.inl rd))), (e1, .inl (cL, 40, .inr (.inl ed)))] sz [.ref y, .int b]) (va_Qi (S := Unit) (fun r _ => r = 0) (fun (_ : Unit) t => va_P (dC, dI) vwCl [(y, .inr (3, [.int 0, .long T, .ref m1, .ref m2, .int kn, .ref s1, .long re, .long gd, .long en, .ref v1, .ref h1, .long he, .ref d1, .ref e1, .int pl])), (m1, .inl (cI, 40, .inl mn)), (m2, .inl (cI, 160, .inl tg)), (s1, .inl (cL, 40, .inr (.inl ms))), (v1, .inl (cL, 40, .inr (.inl ov))), (h1, .inl (cL, 40, .inr (.inl be))), (d1, .inl (cL, 40, .inr (.inl rd))), (e1, .inl (cL, 40, .inr (.inl ed)))] t.heap ∧ va_D (va_A [(y, .inr (3, [.int tw, .long T, .ref m1, .ref m2, .int kn, .ref s1, .long re, .long gd, .long en, .ref v1, .ref h1, .long he, .ref d1, .ref e1, .int pl])), (m1, .inl (cI, 40, .inl mn)), (m2, .inl (cI, 160, .inl tg)), (s1, .inl (cL, 40, .inr (.inl ms))), (v1, .inl (cL, 40, .inr (.inl ov))), (h1, .inl (cL, 40, .inr (.inl be))), (d1, .inl (cL, 40, .inr (.inl rd))), (e1, .inl (cL, 40, .inr (.inl ed)))] sz) [(y, .inr (3, [.int 0, .long T, .ref m1, .ref m2, .int kn, .ref s1, .long re, .long gd, .long en, .ref v1, .ref h1, .long he, .ref d1, .ref e1, .int pl])), (m1, .inl (cI, 40, .inl mn)), (m2, .inl (cI, 160, .inl tg)), (s1, .inl (cL, 40, .inr (.inl ms))), (v1, .inl (cL, 40, .inr (.inl ov))), (h1, .inl (cL, 40, .inr (.inl be))), (d1, .inl (cL, 40, .inr (.inl rd))), (e1, .inl (cL, 40, .inr (.inl ed)))]) (va_A [(y, .inr (3, [.int tw, .long T, .ref m1, .ref m2, .int kn, .ref s1, .long re, .long gd, .long en, .ref v1, .ref h1, .long he, .ref d1, .ref e1, .int pl])), (m1, .inl (cI, 40, .inl mn)), (m2, .inl (cI, 160, .inl tg)), (s1, .inl (cL, 40, .inr (.inl ms))), (v1, .inl (cL, 40, .inr (.inl ov))), (h1, .inl (cL, 40, .inr (.inl be))), (d1, .inl (cL, 40, .inr (.inl rd))), (e1, .inl (cL, 40, .inr (.inl ed)))] sz)) 0 0 (va_A [(y, .inr (3, [.int tw, .long T, .ref m1, .ref m2, .int kn, .ref s1, .long re, .long gd, .long en, .ref v1, .ref h1, .long he, .ref d1, .ref e1, .int pl])), (m1, .inl (cI, 40, .inl mn)), (m2, .inl (cI, 160, .inl tg)), (s1, .inl (cL, 40, .inr (.inl ms))), (v1, .inl (cL, 40, .inr (.inl ov))), (h1, .inl (cL, 40, .inr (.inl be))), (d1, .inl (cL, 40, .inr (.inl rd))), (e1, .inl (cL, 40, .inr (.inl ed)))] sz) := by
  refine Met.ofW (cc := cM_drop) (maxL := 2) (ret := (some .boolean)) (by decide) rfl ?_
  intro p e s m args below meth c s₁ B hml hv
  obtain ⟨rfl, hsz, hP, hK, hN, hD0⟩ := hv
  have hx := B.exec
  have hb := B.bytes
  have hr := B.returns
  have hts := atoms_spec (ws := wsM_drop) B.pre
  have hT : ∀ w ∈ bwB, w.before _ s = true := fun w h => hts w (List.mem_cons_of_mem _ h)
  have hown : s.vm.findClass RM = some m.cls := findClass_of_methodNamed B.named
  have hlocks := B.notSynchronized
  subst hsz
  have hD := hD0.self (sz := s.heap.size)
  generalize hAe : va_A [(y, .inr (3, [.int tw, .long T, .ref m1, .ref m2, .int kn, .ref s1, .long re, .long gd, .long en, .ref v1, .ref h1, .long he, .ref d1, .ref e1, .int pl])), (m1, .inl (cI, 40, .inl mn)), (m2, .inl (cI, 160, .inl tg)), (s1, .inl (cL, 40, .inr (.inl ms))), (v1, .inl (cL, 40, .inr (.inl ov))), (h1, .inl (cL, 40, .inr (.inl be))), (d1, .inl (cL, 40, .inr (.inl rd))), (e1, .inl (cL, 40, .inr (.inl ed)))] s.heap.size = A at hD ⊢
  have hA : ∀ q : Nat, s.heap.size ≤ q → A q := fun q h => by rw [← hAe]; exact Or.inr h
  have hS : va_S A s.heap s.heap [] := va_S.rf
  have hP : va_P (dC, dI) vwCl [(y, .inr (3, [.int tw, .long T, .ref m1, .ref m2, .int kn, .ref s1, .long re, .long gd, .long en, .ref v1, .ref h1, .long he, .ref d1, .ref e1, .int pl])), (m1, .inl (cI, 40, .inl mn)), (m2, .inl (cI, 160, .inl tg)), (s1, .inl (cL, 40, .inr (.inl ms))), (v1, .inl (cL, 40, .inr (.inl ov))), (h1, .inl (cL, 40, .inr (.inl be))), (d1, .inl (cL, 40, .inr (.inl rd))), (e1, .inl (cL, 40, .inr (.inl ed)))] s.heap := hP
  have hl := lv_entry ([.ref y, .int b]) (n := 2) (Nat.le_of_ble_eq_true rfl)
  rw [lg_entry_eq]
  generalize (lg_sl ([.ref y, .int b]) ++ List.replicate (2 - (lg_sl ([.ref y, .int b])).length) Slot.unset).toArray = ls at hl ⊢
  have hl : lv_has ls 2 [(0, .ref y), (1, .int b)] := hl
  refine lv_aload_n hx hb dM_drop_0 rfl (lv_at hl 0 rfl) ?_
  refine lv_iconst (v := 0) hx hb dM_drop_1 (by decide) ?_
  refine va_put (D := (dC, dI)) (ci := 3) (v := .int 0) (ty := .int) (C := RM) (T := TM) (N := 15) hx hb hT inM tyM tokM nmM hown hK hP hD hS 0 rfl rfl 0 (by decide) (hT _ hw_338) (fun _ h9 => h9) rfl (by decide +kernel) rfl rfl (Nat.le_of_ble_eq_true rfl) dM_drop_2 (fun H locs hP hD hS => ?_)
  have hP : va_P (dC, dI) vwCl [(y, .inr (3, [.int 0, .long T, .ref m1, .ref m2, .int kn, .ref s1, .long re, .long gd, .long en, .ref v1, .ref h1, .long he, .ref d1, .ref e1, .int pl])), (m1, .inl (cI, 40, .inl mn)), (m2, .inl (cI, 160, .inl tg)), (s1, .inl (cL, 40, .inr (.inl ms))), (v1, .inl (cL, 40, .inr (.inl ov))), (h1, .inl (cL, 40, .inr (.inl be))), (d1, .inl (cL, 40, .inr (.inl rd))), (e1, .inl (cL, 40, .inr (.inl ed)))] H := hP
  have hD : va_D A [(y, .inr (3, [.int 0, .long T, .ref m1, .ref m2, .int kn, .ref s1, .long re, .long gd, .long en, .ref v1, .ref h1, .long he, .ref d1, .ref e1, .int pl])), (m1, .inl (cI, 40, .inl mn)), (m2, .inl (cI, 160, .inl tg)), (s1, .inl (cL, 40, .inr (.inl ms))), (v1, .inl (cL, 40, .inr (.inl ov))), (h1, .inl (cL, 40, .inr (.inl be))), (d1, .inl (cL, 40, .inr (.inl rd))), (e1, .inl (cL, 40, .inr (.inl ed)))] := hD
  refine lv_iload_n hx hb dM_drop_5 rfl (lv_at hl 1 rfl) ?_
  refine vp_callSi (W.runS (As := [.int b]) (rest := []) ⟨hx, hb, hml, hown, hT⟩ (m_isB0 l b hb9) (cwS 1 hT g_M_40 rfl rfl rfl (by decide +kernel) ⟨Nat.le_of_ble_eq_true rfl, Nat.le_of_ble_eq_true rfl⟩) preEq rfl rfl hl.1 rfl (lv_room (Nat.le_of_ble_eq_true rfl)) dM_drop_6 ⟨Nat.le_of_ble_eq_true rfl, Nat.le_of_ble_eq_true rfl⟩) (fun r_1 hr_1 => ?_)
  rw [hr_1]; clear hr_1
  refine lv_if_eq (tgt := 23) hx hb dM_drop_9 (by decide) (fun c_2 => ?_) (fun c_2 => ?_)
  · skip
    refine lv_iconst (v := 0) hx hb dM_drop_23 (by decide) ?_
    have hP9 := hP.sub (ws' := [(y, .inr (3, [.int 0, .long T, .ref m1, .ref m2, .int kn, .ref s1, .long re, .long gd, .long en, .ref v1, .ref h1, .long he, .ref d1, .ref e1, .int pl])), (m1, .inl (cI, 40, .inl mn)), (m2, .inl (cI, 160, .inl tg)), (s1, .inl (cL, 40, .inr (.inl ms))), (v1, .inl (cL, 40, .inr (.inl ov))), (h1, .inl (cL, 40, .inr (.inl be))), (d1, .inl (cL, 40, .inr (.inl rd))), (e1, .inl (cL, 40, .inr (.inl ed)))]) [0, 1, 2, 3, 4, 5, 6, 7] rfl
    have hD9 := hD.sub (ws' := [(y, .inr (3, [.int 0, .long T, .ref m1, .ref m2, .int kn, .ref s1, .long re, .long gd, .long en, .ref v1, .ref h1, .long he, .ref d1, .ref e1, .int pl])), (m1, .inl (cI, 40, .inl mn)), (m2, .inl (cI, 160, .inl tg)), (s1, .inl (cL, 40, .inr (.inl ms))), (v1, .inl (cL, 40, .inr (.inl ov))), (h1, .inl (cL, 40, .inr (.inl be))), (d1, .inl (cL, 40, .inr (.inl rd))), (e1, .inl (cL, 40, .inr (.inl ed)))]) [0, 1, 2, 3, 4, 5, 6, 7] (by decide) rfl
    exact W.zret (v := 0) hx hb hr rfl (fun t9 ht9 hW9 => ⟨⟨_, (), rfl, rfl, by rw [ht9]; exact hP9, by exact hD9⟩, hS.F ht9⟩) hS.2.2 dM_drop_24
  · skip
    exact absurd rfl c_2
set_option maxHeartbeats 4000000 in
set_option maxRecDepth 100000 in
theorem m_dropF (l : Launch) (dC : Nat → ClassId) (dI : Nat → Nat → Nat) (y m1 m2 s1 v1 h1 d1 e1 : Nat) (cI cL : ClassId) (tw : Int32) (T : Int64) (mn tg : Nat → Int32) (kn : Int32) (ms : Nat → Int64) (re gd en : Int64) (ov be : Nat → Int64) (he : Int64) (rd ed : Nat → Int64) (pl : Int32) (k : Nat) (hk : k < 40) (hT9 : bw_m T k = false) (sz : Nat) : Met l yM_drop wsM_drop ({ frames := 1, cells := 0, slots := 0, locals := 22 } : Room) (bw_Wr (dC, dI) [(cI, .int), (cL, .long)] [(y, .inr (3, [.int tw, .long T, .ref m1, .ref m2, .int kn, .ref s1, .long re, .long gd, .long en, .ref v1, .ref h1, .long he, .ref d1, .ref e1, .int pl])), (m1, .inl (cI, 40, .inl mn)), (m2, .inl (cI, 160, .inl tg)), (s1, .inl (cL, 40, .inr (.inl ms))), (v1, .inl (cL, 40, .inr (.inl ov))), (h1, .inl (cL, 40, .inr (.inl be))), (d1, .inl (cL, 40, .inr (.inl rd))), (e1, .inl (cL, 40, .inr (.inl ed)))] sz [.ref y, .int (nI k)]) (va_Qi (S := Unit) (fun r _ => r = 0) (fun (_ : Unit) t => va_P (dC, dI) vwCl [(y, .inr (3, [.int 0, .long T, .ref m1, .ref m2, .int kn, .ref s1, .long re, .long gd, .long en, .ref v1, .ref h1, .long he, .ref d1, .ref e1, .int pl])), (m1, .inl (cI, 40, .inl mn)), (m2, .inl (cI, 160, .inl tg)), (s1, .inl (cL, 40, .inr (.inl ms))), (v1, .inl (cL, 40, .inr (.inl ov))), (h1, .inl (cL, 40, .inr (.inl be))), (d1, .inl (cL, 40, .inr (.inl rd))), (e1, .inl (cL, 40, .inr (.inl ed)))] t.heap ∧ va_D (va_A [(y, .inr (3, [.int tw, .long T, .ref m1, .ref m2, .int kn, .ref s1, .long re, .long gd, .long en, .ref v1, .ref h1, .long he, .ref d1, .ref e1, .int pl])), (m1, .inl (cI, 40, .inl mn)), (m2, .inl (cI, 160, .inl tg)), (s1, .inl (cL, 40, .inr (.inl ms))), (v1, .inl (cL, 40, .inr (.inl ov))), (h1, .inl (cL, 40, .inr (.inl be))), (d1, .inl (cL, 40, .inr (.inl rd))), (e1, .inl (cL, 40, .inr (.inl ed)))] sz) [(y, .inr (3, [.int 0, .long T, .ref m1, .ref m2, .int kn, .ref s1, .long re, .long gd, .long en, .ref v1, .ref h1, .long he, .ref d1, .ref e1, .int pl])), (m1, .inl (cI, 40, .inl mn)), (m2, .inl (cI, 160, .inl tg)), (s1, .inl (cL, 40, .inr (.inl ms))), (v1, .inl (cL, 40, .inr (.inl ov))), (h1, .inl (cL, 40, .inr (.inl be))), (d1, .inl (cL, 40, .inr (.inl rd))), (e1, .inl (cL, 40, .inr (.inl ed)))]) (va_A [(y, .inr (3, [.int tw, .long T, .ref m1, .ref m2, .int kn, .ref s1, .long re, .long gd, .long en, .ref v1, .ref h1, .long he, .ref d1, .ref e1, .int pl])), (m1, .inl (cI, 40, .inl mn)), (m2, .inl (cI, 160, .inl tg)), (s1, .inl (cL, 40, .inr (.inl ms))), (v1, .inl (cL, 40, .inr (.inl ov))), (h1, .inl (cL, 40, .inr (.inl be))), (d1, .inl (cL, 40, .inr (.inl rd))), (e1, .inl (cL, 40, .inr (.inl ed)))] sz)) 0 0 (va_A [(y, .inr (3, [.int tw, .long T, .ref m1, .ref m2, .int kn, .ref s1, .long re, .long gd, .long en, .ref v1, .ref h1, .long he, .ref d1, .ref e1, .int pl])), (m1, .inl (cI, 40, .inl mn)), (m2, .inl (cI, 160, .inl tg)), (s1, .inl (cL, 40, .inr (.inl ms))), (v1, .inl (cL, 40, .inr (.inl ov))), (h1, .inl (cL, 40, .inr (.inl be))), (d1, .inl (cL, 40, .inr (.inl rd))), (e1, .inl (cL, 40, .inr (.inl ed)))] sz) := by
  refine Met.ofW (cc := cM_drop) (maxL := 2) (ret := (some .boolean)) (by decide) rfl ?_
  intro p e s m args below meth c s₁ B hml hv
  obtain ⟨rfl, hsz, hP, hK, hN, hD0⟩ := hv
  have hx := B.exec
  have hb := B.bytes
  have hr := B.returns
  have hts := atoms_spec (ws := wsM_drop) B.pre
  have hT : ∀ w ∈ bwB, w.before _ s = true := fun w h => hts w (List.mem_cons_of_mem _ h)
  have hown : s.vm.findClass RM = some m.cls := findClass_of_methodNamed B.named
  have hlocks := B.notSynchronized
  subst hsz
  have hD := hD0.self (sz := s.heap.size)
  generalize hAe : va_A [(y, .inr (3, [.int tw, .long T, .ref m1, .ref m2, .int kn, .ref s1, .long re, .long gd, .long en, .ref v1, .ref h1, .long he, .ref d1, .ref e1, .int pl])), (m1, .inl (cI, 40, .inl mn)), (m2, .inl (cI, 160, .inl tg)), (s1, .inl (cL, 40, .inr (.inl ms))), (v1, .inl (cL, 40, .inr (.inl ov))), (h1, .inl (cL, 40, .inr (.inl be))), (d1, .inl (cL, 40, .inr (.inl rd))), (e1, .inl (cL, 40, .inr (.inl ed)))] s.heap.size = A at hD ⊢
  have hA : ∀ q : Nat, s.heap.size ≤ q → A q := fun q h => by rw [← hAe]; exact Or.inr h
  have hS : va_S A s.heap s.heap [] := va_S.rf
  have hP : va_P (dC, dI) vwCl [(y, .inr (3, [.int tw, .long T, .ref m1, .ref m2, .int kn, .ref s1, .long re, .long gd, .long en, .ref v1, .ref h1, .long he, .ref d1, .ref e1, .int pl])), (m1, .inl (cI, 40, .inl mn)), (m2, .inl (cI, 160, .inl tg)), (s1, .inl (cL, 40, .inr (.inl ms))), (v1, .inl (cL, 40, .inr (.inl ov))), (h1, .inl (cL, 40, .inr (.inl be))), (d1, .inl (cL, 40, .inr (.inl rd))), (e1, .inl (cL, 40, .inr (.inl ed)))] s.heap := hP
  have hl := lv_entry ([.ref y, .int (nI k)]) (n := 2) (Nat.le_of_ble_eq_true rfl)
  rw [lg_entry_eq]
  generalize (lg_sl ([.ref y, .int (nI k)]) ++ List.replicate (2 - (lg_sl ([.ref y, .int (nI k)])).length) Slot.unset).toArray = ls at hl ⊢
  have hl : lv_has ls 2 [(0, .ref y), (1, .int (nI k))] := hl
  refine lv_aload_n hx hb dM_drop_0 rfl (lv_at hl 0 rfl) ?_
  refine lv_iconst (v := 0) hx hb dM_drop_1 (by decide) ?_
  refine va_put (D := (dC, dI)) (ci := 3) (v := .int 0) (ty := .int) (C := RM) (T := TM) (N := 15) hx hb hT inM tyM tokM nmM hown hK hP hD hS 0 rfl rfl 0 (by decide) (hT _ hw_338) (fun _ h9 => h9) rfl (by decide +kernel) rfl rfl (Nat.le_of_ble_eq_true rfl) dM_drop_2 (fun H locs hP hD hS => ?_)
  have hP : va_P (dC, dI) vwCl [(y, .inr (3, [.int 0, .long T, .ref m1, .ref m2, .int kn, .ref s1, .long re, .long gd, .long en, .ref v1, .ref h1, .long he, .ref d1, .ref e1, .int pl])), (m1, .inl (cI, 40, .inl mn)), (m2, .inl (cI, 160, .inl tg)), (s1, .inl (cL, 40, .inr (.inl ms))), (v1, .inl (cL, 40, .inr (.inl ov))), (h1, .inl (cL, 40, .inr (.inl be))), (d1, .inl (cL, 40, .inr (.inl rd))), (e1, .inl (cL, 40, .inr (.inl ed)))] H := hP
  have hD : va_D A [(y, .inr (3, [.int 0, .long T, .ref m1, .ref m2, .int kn, .ref s1, .long re, .long gd, .long en, .ref v1, .ref h1, .long he, .ref d1, .ref e1, .int pl])), (m1, .inl (cI, 40, .inl mn)), (m2, .inl (cI, 160, .inl tg)), (s1, .inl (cL, 40, .inr (.inl ms))), (v1, .inl (cL, 40, .inr (.inl ov))), (h1, .inl (cL, 40, .inr (.inl be))), (d1, .inl (cL, 40, .inr (.inl rd))), (e1, .inl (cL, 40, .inr (.inl ed)))] := hD
  refine lv_iload_n hx hb dM_drop_5 rfl (lv_at hl 1 rfl) ?_
  refine vp_callSi (W.runS (As := [.int (nI k)]) (rest := []) ⟨hx, hb, hml, hown, hT⟩ (m_isB1 l k (by omega)) (cwS 1 hT g_M_40 rfl rfl rfl (by decide +kernel) ⟨Nat.le_of_ble_eq_true rfl, Nat.le_of_ble_eq_true rfl⟩) preEq rfl rfl hl.1 rfl (lv_room (Nat.le_of_ble_eq_true rfl)) dM_drop_6 ⟨Nat.le_of_ble_eq_true rfl, Nat.le_of_ble_eq_true rfl⟩) (fun r_1 hr_1 => ?_)
  rw [hr_1]; clear hr_1
  refine lv_if_eq (tgt := 23) hx hb dM_drop_9 (by decide) (fun c_2 => ?_) (fun c_2 => ?_)
  · skip
    exact absurd c_2 (by decide)
  · skip
    refine lv_aload_n hx hb dM_drop_12 rfl (lv_at hl 0 rfl) ?_
    refine va_get (D := (dC, dI)) (ci := 3) (v := .long T) (C := RM) (T := TM) (N := 15) hx hb hT inM hown hK hP 0 rfl rfl 1 (by decide) (hT _ hw_339) (fun _ h9 => h9) rfl dM_drop_13 ?_
    refine lv_iload_n hx hb dM_drop_16 rfl (lv_at hl 1 rfl) ?_
    refine vp_callSi (W.runS (As := [.long T, .int (nI k)]) (rest := []) ⟨hx, hb, hml, hown, hT⟩ (m_is l T k (by omega)) (cwS 2 hT g_M_36 rfl rfl rfl (by decide +kernel) ⟨Nat.le_of_ble_eq_true rfl, Nat.le_of_ble_eq_true rfl⟩) preEq rfl rfl hl.1 rfl (lv_room (Nat.le_of_ble_eq_true rfl)) dM_drop_17 ⟨Nat.le_of_ble_eq_true rfl, Nat.le_of_ble_eq_true rfl⟩) (fun r_3 hr_3 => ?_)
    rw [hr_3]; clear hr_3
    refine lv_if_ne (tgt := 25) hx hb dM_drop_20 (by decide) (fun c_4 => ?_) (fun c_4 => ?_)
    · skip
      have c_4 := bw_in0 c_4
      rw [hT9] at c_4; cases c_4
    · skip
      have c_4 := bw_i0.mp c_4
      refine lv_iconst (v := 0) hx hb dM_drop_23 (by decide) ?_
      have hP9 := hP.sub (ws' := [(y, .inr (3, [.int 0, .long T, .ref m1, .ref m2, .int kn, .ref s1, .long re, .long gd, .long en, .ref v1, .ref h1, .long he, .ref d1, .ref e1, .int pl])), (m1, .inl (cI, 40, .inl mn)), (m2, .inl (cI, 160, .inl tg)), (s1, .inl (cL, 40, .inr (.inl ms))), (v1, .inl (cL, 40, .inr (.inl ov))), (h1, .inl (cL, 40, .inr (.inl be))), (d1, .inl (cL, 40, .inr (.inl rd))), (e1, .inl (cL, 40, .inr (.inl ed)))]) [0, 1, 2, 3, 4, 5, 6, 7] rfl
      have hD9 := hD.sub (ws' := [(y, .inr (3, [.int 0, .long T, .ref m1, .ref m2, .int kn, .ref s1, .long re, .long gd, .long en, .ref v1, .ref h1, .long he, .ref d1, .ref e1, .int pl])), (m1, .inl (cI, 40, .inl mn)), (m2, .inl (cI, 160, .inl tg)), (s1, .inl (cL, 40, .inr (.inl ms))), (v1, .inl (cL, 40, .inr (.inl ov))), (h1, .inl (cL, 40, .inr (.inl be))), (d1, .inl (cL, 40, .inr (.inl rd))), (e1, .inl (cL, 40, .inr (.inl ed)))]) [0, 1, 2, 3, 4, 5, 6, 7] (by decide) rfl
      exact W.zret (v := 0) hx hb hr rfl (fun t9 ht9 hW9 => ⟨⟨_, (), rfl, rfl, by rw [ht9]; exact hP9, by exact hD9⟩, hS.F ht9⟩) hS.2.2 dM_drop_24
set_option maxHeartbeats 4000000 in
set_option maxRecDepth 100000 in
theorem m_dropT (l : Launch) (dC : Nat → ClassId) (dI : Nat → Nat → Nat) (y m1 m2 s1 v1 h1 d1 e1 : Nat) (cI cL : ClassId) (tw : Int32) (T : Int64) (mn tg : Nat → Int32) (kn : Int32) (ms : Nat → Int64) (re gd en : Int64) (ov be : Nat → Int64) (he : Int64) (rd ed : Nat → Int64) (pl : Int32) (k : Nat) (hk : k < 40) (hT9 : bw_m T k = true) (sz : Nat) : Met l yM_drop wsM_drop ({ frames := 1, cells := 0, slots := 0, locals := 22 } : Room) (bw_Wr (dC, dI) [(cI, .int), (cL, .long)] [(y, .inr (3, [.int tw, .long T, .ref m1, .ref m2, .int kn, .ref s1, .long re, .long gd, .long en, .ref v1, .ref h1, .long he, .ref d1, .ref e1, .int pl])), (m1, .inl (cI, 40, .inl mn)), (m2, .inl (cI, 160, .inl tg)), (s1, .inl (cL, 40, .inr (.inl ms))), (v1, .inl (cL, 40, .inr (.inl ov))), (h1, .inl (cL, 40, .inr (.inl be))), (d1, .inl (cL, 40, .inr (.inl rd))), (e1, .inl (cL, 40, .inr (.inl ed)))] sz [.ref y, .int (nI k)]) (va_Qi (S := Unit) (fun r _ => r = 1) (fun (_ : Unit) t => va_P (dC, dI) vwCl [(y, .inr (3, [.int 0, .long (T &&& (bw_b k ^^^ (-1))), .ref m1, .ref m2, .int 0, .ref s1, .long re, .long gd, .long en, .ref v1, .ref h1, .long he, .ref d1, .ref e1, .int pl])), (m1, .inl (cI, 40, .inl mn)), (m2, .inl (cI, 160, .inl tg)), (s1, .inl (cL, 40, .inr (.inl ms))), (v1, .inl (cL, 40, .inr (.inl ov))), (h1, .inl (cL, 40, .inr (.inl be))), (d1, .inl (cL, 40, .inr (.inl rd))), (e1, .inl (cL, 40, .inr (.inl ed)))] t.heap ∧ va_D (va_A [(y, .inr (3, [.int tw, .long T, .ref m1, .ref m2, .int kn, .ref s1, .long re, .long gd, .long en, .ref v1, .ref h1, .long he, .ref d1, .ref e1, .int pl])), (m1, .inl (cI, 40, .inl mn)), (m2, .inl (cI, 160, .inl tg)), (s1, .inl (cL, 40, .inr (.inl ms))), (v1, .inl (cL, 40, .inr (.inl ov))), (h1, .inl (cL, 40, .inr (.inl be))), (d1, .inl (cL, 40, .inr (.inl rd))), (e1, .inl (cL, 40, .inr (.inl ed)))] sz) [(y, .inr (3, [.int 0, .long (T &&& (bw_b k ^^^ (-1))), .ref m1, .ref m2, .int 0, .ref s1, .long re, .long gd, .long en, .ref v1, .ref h1, .long he, .ref d1, .ref e1, .int pl])), (m1, .inl (cI, 40, .inl mn)), (m2, .inl (cI, 160, .inl tg)), (s1, .inl (cL, 40, .inr (.inl ms))), (v1, .inl (cL, 40, .inr (.inl ov))), (h1, .inl (cL, 40, .inr (.inl be))), (d1, .inl (cL, 40, .inr (.inl rd))), (e1, .inl (cL, 40, .inr (.inl ed)))]) (va_A [(y, .inr (3, [.int tw, .long T, .ref m1, .ref m2, .int kn, .ref s1, .long re, .long gd, .long en, .ref v1, .ref h1, .long he, .ref d1, .ref e1, .int pl])), (m1, .inl (cI, 40, .inl mn)), (m2, .inl (cI, 160, .inl tg)), (s1, .inl (cL, 40, .inr (.inl ms))), (v1, .inl (cL, 40, .inr (.inl ov))), (h1, .inl (cL, 40, .inr (.inl be))), (d1, .inl (cL, 40, .inr (.inl rd))), (e1, .inl (cL, 40, .inr (.inl ed)))] sz)) 0 0 (va_A [(y, .inr (3, [.int tw, .long T, .ref m1, .ref m2, .int kn, .ref s1, .long re, .long gd, .long en, .ref v1, .ref h1, .long he, .ref d1, .ref e1, .int pl])), (m1, .inl (cI, 40, .inl mn)), (m2, .inl (cI, 160, .inl tg)), (s1, .inl (cL, 40, .inr (.inl ms))), (v1, .inl (cL, 40, .inr (.inl ov))), (h1, .inl (cL, 40, .inr (.inl be))), (d1, .inl (cL, 40, .inr (.inl rd))), (e1, .inl (cL, 40, .inr (.inl ed)))] sz) := by
  refine Met.ofW (cc := cM_drop) (maxL := 2) (ret := (some .boolean)) (by decide) rfl ?_
  intro p e s m args below meth c s₁ B hml hv
  obtain ⟨rfl, hsz, hP, hK, hN, hD0⟩ := hv
  have hx := B.exec
  have hb := B.bytes
  have hr := B.returns
  have hts := atoms_spec (ws := wsM_drop) B.pre
  have hT : ∀ w ∈ bwB, w.before _ s = true := fun w h => hts w (List.mem_cons_of_mem _ h)
  have hown : s.vm.findClass RM = some m.cls := findClass_of_methodNamed B.named
  have hlocks := B.notSynchronized
  subst hsz
  have hD := hD0.self (sz := s.heap.size)
  generalize hAe : va_A [(y, .inr (3, [.int tw, .long T, .ref m1, .ref m2, .int kn, .ref s1, .long re, .long gd, .long en, .ref v1, .ref h1, .long he, .ref d1, .ref e1, .int pl])), (m1, .inl (cI, 40, .inl mn)), (m2, .inl (cI, 160, .inl tg)), (s1, .inl (cL, 40, .inr (.inl ms))), (v1, .inl (cL, 40, .inr (.inl ov))), (h1, .inl (cL, 40, .inr (.inl be))), (d1, .inl (cL, 40, .inr (.inl rd))), (e1, .inl (cL, 40, .inr (.inl ed)))] s.heap.size = A at hD ⊢
  have hA : ∀ q : Nat, s.heap.size ≤ q → A q := fun q h => by rw [← hAe]; exact Or.inr h
  have hS : va_S A s.heap s.heap [] := va_S.rf
  have hP : va_P (dC, dI) vwCl [(y, .inr (3, [.int tw, .long T, .ref m1, .ref m2, .int kn, .ref s1, .long re, .long gd, .long en, .ref v1, .ref h1, .long he, .ref d1, .ref e1, .int pl])), (m1, .inl (cI, 40, .inl mn)), (m2, .inl (cI, 160, .inl tg)), (s1, .inl (cL, 40, .inr (.inl ms))), (v1, .inl (cL, 40, .inr (.inl ov))), (h1, .inl (cL, 40, .inr (.inl be))), (d1, .inl (cL, 40, .inr (.inl rd))), (e1, .inl (cL, 40, .inr (.inl ed)))] s.heap := hP
  have hl := lv_entry ([.ref y, .int (nI k)]) (n := 2) (Nat.le_of_ble_eq_true rfl)
  rw [lg_entry_eq]
  generalize (lg_sl ([.ref y, .int (nI k)]) ++ List.replicate (2 - (lg_sl ([.ref y, .int (nI k)])).length) Slot.unset).toArray = ls at hl ⊢
  have hl : lv_has ls 2 [(0, .ref y), (1, .int (nI k))] := hl
  refine lv_aload_n hx hb dM_drop_0 rfl (lv_at hl 0 rfl) ?_
  refine lv_iconst (v := 0) hx hb dM_drop_1 (by decide) ?_
  refine va_put (D := (dC, dI)) (ci := 3) (v := .int 0) (ty := .int) (C := RM) (T := TM) (N := 15) hx hb hT inM tyM tokM nmM hown hK hP hD hS 0 rfl rfl 0 (by decide) (hT _ hw_338) (fun _ h9 => h9) rfl (by decide +kernel) rfl rfl (Nat.le_of_ble_eq_true rfl) dM_drop_2 (fun H locs hP hD hS => ?_)
  have hP : va_P (dC, dI) vwCl [(y, .inr (3, [.int 0, .long T, .ref m1, .ref m2, .int kn, .ref s1, .long re, .long gd, .long en, .ref v1, .ref h1, .long he, .ref d1, .ref e1, .int pl])), (m1, .inl (cI, 40, .inl mn)), (m2, .inl (cI, 160, .inl tg)), (s1, .inl (cL, 40, .inr (.inl ms))), (v1, .inl (cL, 40, .inr (.inl ov))), (h1, .inl (cL, 40, .inr (.inl be))), (d1, .inl (cL, 40, .inr (.inl rd))), (e1, .inl (cL, 40, .inr (.inl ed)))] H := hP
  have hD : va_D A [(y, .inr (3, [.int 0, .long T, .ref m1, .ref m2, .int kn, .ref s1, .long re, .long gd, .long en, .ref v1, .ref h1, .long he, .ref d1, .ref e1, .int pl])), (m1, .inl (cI, 40, .inl mn)), (m2, .inl (cI, 160, .inl tg)), (s1, .inl (cL, 40, .inr (.inl ms))), (v1, .inl (cL, 40, .inr (.inl ov))), (h1, .inl (cL, 40, .inr (.inl be))), (d1, .inl (cL, 40, .inr (.inl rd))), (e1, .inl (cL, 40, .inr (.inl ed)))] := hD
  refine lv_iload_n hx hb dM_drop_5 rfl (lv_at hl 1 rfl) ?_
  refine vp_callSi (W.runS (As := [.int (nI k)]) (rest := []) ⟨hx, hb, hml, hown, hT⟩ (m_isB1 l k (by omega)) (cwS 1 hT g_M_40 rfl rfl rfl (by decide +kernel) ⟨Nat.le_of_ble_eq_true rfl, Nat.le_of_ble_eq_true rfl⟩) preEq rfl rfl hl.1 rfl (lv_room (Nat.le_of_ble_eq_true rfl)) dM_drop_6 ⟨Nat.le_of_ble_eq_true rfl, Nat.le_of_ble_eq_true rfl⟩) (fun r_1 hr_1 => ?_)
  rw [hr_1]; clear hr_1
  refine lv_if_eq (tgt := 23) hx hb dM_drop_9 (by decide) (fun c_2 => ?_) (fun c_2 => ?_)
  · skip
    exact absurd c_2 (by decide)
  · skip
    refine lv_aload_n hx hb dM_drop_12 rfl (lv_at hl 0 rfl) ?_
    refine va_get (D := (dC, dI)) (ci := 3) (v := .long T) (C := RM) (T := TM) (N := 15) hx hb hT inM hown hK hP 0 rfl rfl 1 (by decide) (hT _ hw_339) (fun _ h9 => h9) rfl dM_drop_13 ?_
    refine lv_iload_n hx hb dM_drop_16 rfl (lv_at hl 1 rfl) ?_
    refine vp_callSi (W.runS (As := [.long T, .int (nI k)]) (rest := []) ⟨hx, hb, hml, hown, hT⟩ (m_is l T k (by omega)) (cwS 2 hT g_M_36 rfl rfl rfl (by decide +kernel) ⟨Nat.le_of_ble_eq_true rfl, Nat.le_of_ble_eq_true rfl⟩) preEq rfl rfl hl.1 rfl (lv_room (Nat.le_of_ble_eq_true rfl)) dM_drop_17 ⟨Nat.le_of_ble_eq_true rfl, Nat.le_of_ble_eq_true rfl⟩) (fun r_3 hr_3 => ?_)
    rw [hr_3]; clear hr_3
    refine lv_if_ne (tgt := 25) hx hb dM_drop_20 (by decide) (fun c_4 => ?_) (fun c_4 => ?_)
    · skip
      have c_4 := bw_in0 c_4
      refine lv_aload_n hx hb dM_drop_25 rfl (lv_at hl 0 rfl) ?_
      refine lv_aload_n hx hb dM_drop_26 rfl (lv_at hl 0 rfl) ?_
      refine va_get (D := (dC, dI)) (ci := 3) (v := .long T) (C := RM) (T := TM) (N := 15) hx hb hT inM hown hK hP 0 rfl rfl 1 (by decide) (hT _ hw_339) (fun _ h9 => h9) rfl dM_drop_27 ?_
      refine lv_iload_n hx hb dM_drop_30 rfl (lv_at hl 1 rfl) ?_
      refine vp_callSl (W.runS (As := [.int (nI k)]) (rest := [.long T, .ref y]) ⟨hx, hb, hml, hown, hT⟩ (m_bit l k) (cwS 1 hT g_M_48 rfl rfl rfl (by decide +kernel) ⟨Nat.le_of_ble_eq_true rfl, Nat.le_of_ble_eq_true rfl⟩) preEq rfl rfl hl.1 rfl (lv_room (Nat.le_of_ble_eq_true rfl)) dM_drop_31 ⟨Nat.le_of_ble_eq_true rfl, Nat.le_of_ble_eq_true rfl⟩) (fun r_5 hr_5 => ?_)
      rw [hr_5]; clear hr_5
      refine lv_ldc2 (v := (-1)) hx hb hown (hT _ hw_409) dM_drop_34 ?_
      refine lv_lxor hx hb dM_drop_37 ?_
      refine lv_land hx hb dM_drop_38 ?_
      refine va_put (D := (dC, dI)) (ci := 3) (v := .long (T &&& ((bw_b k) ^^^ (-1)))) (ty := .long) (C := RM) (T := TM) (N := 15) hx hb hT inM tyM tokM nmM hown hK hP hD hS 0 rfl rfl 1 (by decide) (hT _ hw_339) (fun _ h9 => h9) rfl (by decide +kernel) rfl rfl (Nat.le_of_ble_eq_true rfl) dM_drop_39 (fun H locs hP hD hS => ?_)
      have hP : va_P (dC, dI) vwCl [(y, .inr (3, [.int 0, .long (T &&& ((bw_b k) ^^^ (-1))), .ref m1, .ref m2, .int kn, .ref s1, .long re, .long gd, .long en, .ref v1, .ref h1, .long he, .ref d1, .ref e1, .int pl])), (m1, .inl (cI, 40, .inl mn)), (m2, .inl (cI, 160, .inl tg)), (s1, .inl (cL, 40, .inr (.inl ms))), (v1, .inl (cL, 40, .inr (.inl ov))), (h1, .inl (cL, 40, .inr (.inl be))), (d1, .inl (cL, 40, .inr (.inl rd))), (e1, .inl (cL, 40, .inr (.inl ed)))] H := hP
      have hD : va_D A [(y, .inr (3, [.int 0, .long (T &&& ((bw_b k) ^^^ (-1))), .ref m1, .ref m2, .int kn, .ref s1, .long re, .long gd, .long en, .ref v1, .ref h1, .long he, .ref d1, .ref e1, .int pl])), (m1, .inl (cI, 40, .inl mn)), (m2, .inl (cI, 160, .inl tg)), (s1, .inl (cL, 40, .inr (.inl ms))), (v1, .inl (cL, 40, .inr (.inl ov))), (h1, .inl (cL, 40, .inr (.inl be))), (d1, .inl (cL, 40, .inr (.inl rd))), (e1, .inl (cL, 40, .inr (.inl ed)))] := hD
      refine lv_aload_n hx hb dM_drop_42 rfl (lv_at hl 0 rfl) ?_
      refine lv_iconst (v := 0) hx hb dM_drop_43 (by decide) ?_
      refine va_put (D := (dC, dI)) (ci := 3) (v := .int 0) (ty := .boolean) (C := RM) (T := TM) (N := 15) hx hb hT inM tyM tokM nmM hown hK hP hD hS 0 rfl rfl 4 (by decide) (hT _ hw_342) (fun _ h9 => h9) rfl (by decide +kernel) rfl rfl (Nat.le_of_ble_eq_true rfl) dM_drop_44 (fun H locs hP hD hS => ?_)
      have hP : va_P (dC, dI) vwCl [(y, .inr (3, [.int 0, .long (T &&& ((bw_b k) ^^^ (-1))), .ref m1, .ref m2, .int 0, .ref s1, .long re, .long gd, .long en, .ref v1, .ref h1, .long he, .ref d1, .ref e1, .int pl])), (m1, .inl (cI, 40, .inl mn)), (m2, .inl (cI, 160, .inl tg)), (s1, .inl (cL, 40, .inr (.inl ms))), (v1, .inl (cL, 40, .inr (.inl ov))), (h1, .inl (cL, 40, .inr (.inl be))), (d1, .inl (cL, 40, .inr (.inl rd))), (e1, .inl (cL, 40, .inr (.inl ed)))] H := hP
      have hD : va_D A [(y, .inr (3, [.int 0, .long (T &&& ((bw_b k) ^^^ (-1))), .ref m1, .ref m2, .int 0, .ref s1, .long re, .long gd, .long en, .ref v1, .ref h1, .long he, .ref d1, .ref e1, .int pl])), (m1, .inl (cI, 40, .inl mn)), (m2, .inl (cI, 160, .inl tg)), (s1, .inl (cL, 40, .inr (.inl ms))), (v1, .inl (cL, 40, .inr (.inl ov))), (h1, .inl (cL, 40, .inr (.inl be))), (d1, .inl (cL, 40, .inr (.inl rd))), (e1, .inl (cL, 40, .inr (.inl ed)))] := hD
      refine lv_iconst (v := 1) hx hb dM_drop_47 (by decide) ?_
      have hP9 := hP.sub (ws' := [(y, .inr (3, [.int 0, .long (T &&& ((bw_b k) ^^^ (-1))), .ref m1, .ref m2, .int 0, .ref s1, .long re, .long gd, .long en, .ref v1, .ref h1, .long he, .ref d1, .ref e1, .int pl])), (m1, .inl (cI, 40, .inl mn)), (m2, .inl (cI, 160, .inl tg)), (s1, .inl (cL, 40, .inr (.inl ms))), (v1, .inl (cL, 40, .inr (.inl ov))), (h1, .inl (cL, 40, .inr (.inl be))), (d1, .inl (cL, 40, .inr (.inl rd))), (e1, .inl (cL, 40, .inr (.inl ed)))]) [0, 1, 2, 3, 4, 5, 6, 7] rfl
      have hD9 := hD.sub (ws' := [(y, .inr (3, [.int 0, .long (T &&& ((bw_b k) ^^^ (-1))), .ref m1, .ref m2, .int 0, .ref s1, .long re, .long gd, .long en, .ref v1, .ref h1, .long he, .ref d1, .ref e1, .int pl])), (m1, .inl (cI, 40, .inl mn)), (m2, .inl (cI, 160, .inl tg)), (s1, .inl (cL, 40, .inr (.inl ms))), (v1, .inl (cL, 40, .inr (.inl ov))), (h1, .inl (cL, 40, .inr (.inl be))), (d1, .inl (cL, 40, .inr (.inl rd))), (e1, .inl (cL, 40, .inr (.inl ed)))]) [0, 1, 2, 3, 4, 5, 6, 7] (by decide) rfl
      exact W.zret (v := 1) hx hb hr rfl (fun t9 ht9 hW9 => ⟨⟨_, (), rfl, rfl, by rw [ht9]; exact hP9, by exact hD9⟩, hS.F ht9⟩) hS.2.2 dM_drop_48
    · skip
      have c_4 := bw_i0.mp c_4
      rw [hT9] at c_4; cases c_4
set_option maxHeartbeats 4000000 in
set_option maxRecDepth 100000 in
theorem m_lookAtEdges (l : Launch) (dC : Nat → ClassId) (dI : Nat → Nat → Nat) (y m1 m2 s1 v1 h1 d1 e1 : Nat) (cI cL : ClassId) (tw : Int32) (T : Int64) (mn tg : Nat → Int32) (kn : Int32) (ms : Nat → Int64) (re gd en : Int64) (ov be : Nat → Int64) (he : Int64) (rd ed : Nat → Int64) (pl : Int32) (sz : Nat) : Met l yM_lookAtEdges wsM_lookAtEdges ({ frames := 1, cells := 0, slots := 0, locals := 22 } : Room) (bw_Wr (dC, dI) [(cI, .int), (cL, .long)] [(y, .inr (3, [.int tw, .long T, .ref m1, .ref m2, .int kn, .ref s1, .long re, .long gd, .long en, .ref v1, .ref h1, .long he, .ref d1, .ref e1, .int pl])), (m1, .inl (cI, 40, .inl mn)), (m2, .inl (cI, 160, .inl tg)), (s1, .inl (cL, 40, .inr (.inl ms))), (v1, .inl (cL, 40, .inr (.inl ov))), (h1, .inl (cL, 40, .inr (.inl be))), (d1, .inl (cL, 40, .inr (.inl rd))), (e1, .inl (cL, 40, .inr (.inl ed)))] sz [.ref y]) (va_Qv (S := (Nat → Int64)) (fun u => bw_edS ms ov u) (fun (u : Nat → Int64) t => va_P (dC, dI) vwCl [(y, .inr (3, [.int tw, .long T, .ref m1, .ref m2, .int kn, .ref s1, .long re, .long gd, .long en, .ref v1, .ref h1, .long he, .ref d1, .ref e1, .int pl])), (m1, .inl (cI, 40, .inl mn)), (m2, .inl (cI, 160, .inl tg)), (s1, .inl (cL, 40, .inr (.inl ms))), (v1, .inl (cL, 40, .inr (.inl ov))), (h1, .inl (cL, 40, .inr (.inl be))), (d1, .inl (cL, 40, .inr (.inl rd))), (e1, .inl (cL, 40, .inr (.inl u)))] t.heap ∧ va_D (va_A [(y, .inr (3, [.int tw, .long T, .ref m1, .ref m2, .int kn, .ref s1, .long re, .long gd, .long en, .ref v1, .ref h1, .long he, .ref d1, .ref e1, .int pl])), (m1, .inl (cI, 40, .inl mn)), (m2, .inl (cI, 160, .inl tg)), (s1, .inl (cL, 40, .inr (.inl ms))), (v1, .inl (cL, 40, .inr (.inl ov))), (h1, .inl (cL, 40, .inr (.inl be))), (d1, .inl (cL, 40, .inr (.inl rd))), (e1, .inl (cL, 40, .inr (.inl ed)))] sz) [(y, .inr (3, [.int tw, .long T, .ref m1, .ref m2, .int kn, .ref s1, .long re, .long gd, .long en, .ref v1, .ref h1, .long he, .ref d1, .ref e1, .int pl])), (m1, .inl (cI, 40, .inl mn)), (m2, .inl (cI, 160, .inl tg)), (s1, .inl (cL, 40, .inr (.inl ms))), (v1, .inl (cL, 40, .inr (.inl ov))), (h1, .inl (cL, 40, .inr (.inl be))), (d1, .inl (cL, 40, .inr (.inl rd))), (e1, .inl (cL, 40, .inr (.inl u)))]) (va_A [(y, .inr (3, [.int tw, .long T, .ref m1, .ref m2, .int kn, .ref s1, .long re, .long gd, .long en, .ref v1, .ref h1, .long he, .ref d1, .ref e1, .int pl])), (m1, .inl (cI, 40, .inl mn)), (m2, .inl (cI, 160, .inl tg)), (s1, .inl (cL, 40, .inr (.inl ms))), (v1, .inl (cL, 40, .inr (.inl ov))), (h1, .inl (cL, 40, .inr (.inl be))), (d1, .inl (cL, 40, .inr (.inl rd))), (e1, .inl (cL, 40, .inr (.inl ed)))] sz)) 0 0 (va_A [(y, .inr (3, [.int tw, .long T, .ref m1, .ref m2, .int kn, .ref s1, .long re, .long gd, .long en, .ref v1, .ref h1, .long he, .ref d1, .ref e1, .int pl])), (m1, .inl (cI, 40, .inl mn)), (m2, .inl (cI, 160, .inl tg)), (s1, .inl (cL, 40, .inr (.inl ms))), (v1, .inl (cL, 40, .inr (.inl ov))), (h1, .inl (cL, 40, .inr (.inl be))), (d1, .inl (cL, 40, .inr (.inl rd))), (e1, .inl (cL, 40, .inr (.inl ed)))] sz) := by
  refine Met.ofW (cc := cM_lookAtEdges) (maxL := 4) (ret := none) (by decide) rfl ?_
  intro p e s m args below meth c s₁ B hml hv
  obtain ⟨rfl, hsz, hP, hK, hN, hD0⟩ := hv
  have hx := B.exec
  have hb := B.bytes
  have hr := B.returns
  have hts := atoms_spec (ws := wsM_lookAtEdges) B.pre
  have hT : ∀ w ∈ bwB, w.before _ s = true := fun w h => hts w (List.mem_cons_of_mem _ h)
  have hown : s.vm.findClass RM = some m.cls := findClass_of_methodNamed B.named
  have hlocks := B.notSynchronized
  subst hsz
  have hD := hD0.self (sz := s.heap.size)
  generalize hAe : va_A [(y, .inr (3, [.int tw, .long T, .ref m1, .ref m2, .int kn, .ref s1, .long re, .long gd, .long en, .ref v1, .ref h1, .long he, .ref d1, .ref e1, .int pl])), (m1, .inl (cI, 40, .inl mn)), (m2, .inl (cI, 160, .inl tg)), (s1, .inl (cL, 40, .inr (.inl ms))), (v1, .inl (cL, 40, .inr (.inl ov))), (h1, .inl (cL, 40, .inr (.inl be))), (d1, .inl (cL, 40, .inr (.inl rd))), (e1, .inl (cL, 40, .inr (.inl ed)))] s.heap.size = A at hD ⊢
  have hA : ∀ q : Nat, s.heap.size ≤ q → A q := fun q h => by rw [← hAe]; exact Or.inr h
  have hS : va_S A s.heap s.heap [] := va_S.rf
  have hP : va_P (dC, dI) vwCl [(y, .inr (3, [.int tw, .long T, .ref m1, .ref m2, .int kn, .ref s1, .long re, .long gd, .long en, .ref v1, .ref h1, .long he, .ref d1, .ref e1, .int pl])), (m1, .inl (cI, 40, .inl mn)), (m2, .inl (cI, 160, .inl tg)), (s1, .inl (cL, 40, .inr (.inl ms))), (v1, .inl (cL, 40, .inr (.inl ov))), (h1, .inl (cL, 40, .inr (.inl be))), (d1, .inl (cL, 40, .inr (.inl rd))), (e1, .inl (cL, 40, .inr (.inl ed)))] s.heap := hP
  have hl := lv_entry ([.ref y]) (n := 4) (Nat.le_of_ble_eq_true rfl)
  rw [lg_entry_eq]
  generalize (lg_sl ([.ref y]) ++ List.replicate (4 - (lg_sl ([.ref y])).length) Slot.unset).toArray = ls at hl ⊢
  have hl : lv_has ls 4 [(0, .ref y)] := hl
  refine lv_iconst (v := nI 0) hx hb dM_lookAtEdges_0 (by decide) ?_
  refine lv_istore_n (lv' := [(1, .int (nI 0)), (0, .ref y)]) hx hb dM_lookAtEdges_1 rfl hl (by decide) rfl (fun ls hl => ?_)
  have loop_2 : ∀ (n_2 : Nat) (i : Nat) (g : Nat → Int64), (i ≤ 40) → (40 < i + n_2) → (bw_eO ms ov i g) → ∀ (H : Heap) (locs : List Loc), va_P (dC, dI) vwCl [(y, .inr (3, [.int tw, .long T, .ref m1, .ref m2, .int kn, .ref s1, .long re, .long gd, .long en, .ref v1, .ref h1, .long he, .ref d1, .ref e1, .int pl])), (m1, .inl (cI, 40, .inl mn)), (m2, .inl (cI, 160, .inl tg)), (s1, .inl (cL, 40, .inr (.inl ms))), (v1, .inl (cL, 40, .inr (.inl ov))), (h1, .inl (cL, 40, .inr (.inl be))), (d1, .inl (cL, 40, .inr (.inl rd))), (e1, .inl (cL, 40, .inr (.inl g)))] H → va_D A [(y, .inr (3, [.int tw, .long T, .ref m1, .ref m2, .int kn, .ref s1, .long re, .long gd, .long en, .ref v1, .ref h1, .long he, .ref d1, .ref e1, .int pl])), (m1, .inl (cI, 40, .inl mn)), (m2, .inl (cI, 160, .inl tg)), (s1, .inl (cL, 40, .inr (.inl ms))), (v1, .inl (cL, 40, .inr (.inl ov))), (h1, .inl (cL, 40, .inr (.inl be))), (d1, .inl (cL, 40, .inr (.inl rd))), (e1, .inl (cL, 40, .inr (.inl g)))] → va_S A s.heap H locs → ∀ (ls : Array Slot), lv_has ls 4 [(0, .ref y), (1, .int (nI i))] → W p l e (headSpec wsM_lookAtEdges ({ frames := 1, cells := 0, slots := 0, locals := 22 } : Room)).room s m ([.ref y] : List Value).toArray below meth c H locs 0 0 (MQ below (va_Qv (S := (Nat → Int64)) (fun u => bw_edS ms ov u) (fun (u : Nat → Int64) t => va_P (dC, dI) vwCl [(y, .inr (3, [.int tw, .long T, .ref m1, .ref m2, .int kn, .ref s1, .long re, .long gd, .long en, .ref v1, .ref h1, .long he, .ref d1, .ref e1, .int pl])), (m1, .inl (cI, 40, .inl mn)), (m2, .inl (cI, 160, .inl tg)), (s1, .inl (cL, 40, .inr (.inl ms))), (v1, .inl (cL, 40, .inr (.inl ov))), (h1, .inl (cL, 40, .inr (.inl be))), (d1, .inl (cL, 40, .inr (.inl rd))), (e1, .inl (cL, 40, .inr (.inl u)))] t.heap ∧ va_D A [(y, .inr (3, [.int tw, .long T, .ref m1, .ref m2, .int kn, .ref s1, .long re, .long gd, .long en, .ref v1, .ref h1, .long he, .ref d1, .ref e1, .int pl])), (m1, .inl (cI, 40, .inl mn)), (m2, .inl (cI, 160, .inl tg)), (s1, .inl (cL, 40, .inr (.inl ms))), (v1, .inl (cL, 40, .inr (.inl ov))), (h1, .inl (cL, 40, .inr (.inl be))), (d1, .inl (cL, 40, .inr (.inl rd))), (e1, .inl (cL, 40, .inr (.inl u)))]) A) ([.ref y] : List Value).toArray s 0 0 A) (F0 m 2 ls []) := by
    intro n_2
    induction n_2 with
    | zero => intro i g hii hfi hO; exfalso; omega
    | succ n_2 ih_2 =>
      intro i g hii hfi hO H locs hP hD hS ls hl
      refine lv_iload_n hx hb dM_lookAtEdges_2 rfl (lv_at hl 1 rfl) ?_
      refine lv_bipush (v := nI 40) hx hb dM_lookAtEdges_3 (by decide) ?_
      refine lv_icmp_ge (tgt := 110) hx hb dM_lookAtEdges_5 (by decide) (fun c_1 => ?_) (fun c_1 => ?_)
      · skip
        have c_1 : 40 ≤ i := (nI_leI (a := 40) (b := i) (by omega) (by omega)).mp c_1
        have hP9 := hP.sub (ws' := [(y, .inr (3, [.int tw, .long T, .ref m1, .ref m2, .int kn, .ref s1, .long re, .long gd, .long en, .ref v1, .ref h1, .long he, .ref d1, .ref e1, .int pl])), (m1, .inl (cI, 40, .inl mn)), (m2, .inl (cI, 160, .inl tg)), (s1, .inl (cL, 40, .inr (.inl ms))), (v1, .inl (cL, 40, .inr (.inl ov))), (h1, .inl (cL, 40, .inr (.inl be))), (d1, .inl (cL, 40, .inr (.inl rd))), (e1, .inl (cL, 40, .inr (.inl g)))]) [0, 1, 2, 3, 4, 5, 6, 7] rfl
        have hD9 := hD.sub (ws' := [(y, .inr (3, [.int tw, .long T, .ref m1, .ref m2, .int kn, .ref s1, .long re, .long gd, .long en, .ref v1, .ref h1, .long he, .ref d1, .ref e1, .int pl])), (m1, .inl (cI, 40, .inl mn)), (m2, .inl (cI, 160, .inl tg)), (s1, .inl (cL, 40, .inr (.inl ms))), (v1, .inl (cL, 40, .inr (.inl ov))), (h1, .inl (cL, 40, .inr (.inl be))), (d1, .inl (cL, 40, .inr (.inl rd))), (e1, .inl (cL, 40, .inr (.inl g)))]) [0, 1, 2, 3, 4, 5, 6, 7] (by decide) rfl
        exact W.vret hx hb hr (fun t9 ht9 hW9 => ⟨⟨g, rfl, bw_eO_e hO (by omega), by rw [ht9]; exact hP9, hD9⟩, hS.F ht9⟩) hS.2.2 dM_lookAtEdges_110
      · skip
        have c_1 : ¬ 40 ≤ i := fun z => c_1 ((nI_leI (a := 40) (b := i) (by omega) (by omega)).mpr z)
        refine lv_aload_n hx hb dM_lookAtEdges_8 rfl (lv_at hl 0 rfl) ?_
        refine va_get (D := (dC, dI)) (ci := 3) (v := .ref e1) (C := RM) (T := TM) (N := 15) hx hb hT inM hown hK hP 0 rfl rfl 13 (by decide) (hT _ hw_351) (fun _ h9 => h9) rfl dM_lookAtEdges_9 ?_
        refine lv_iload_n hx hb dM_lookAtEdges_12 rfl (lv_at hl 1 rfl) ?_
        refine lv_lconst (v := 0) hx hb dM_lookAtEdges_13 (by decide) ?_
        refine bw_last hx hb hK hP hD hS 7 1 (k := i) rfl rfl (by omega) (by decide) dM_lookAtEdges_14 (fun H locs hP hD hS => ?_)
        have hP : va_P (dC, dI) vwCl [(y, .inr (3, [.int tw, .long T, .ref m1, .ref m2, .int kn, .ref s1, .long re, .long gd, .long en, .ref v1, .ref h1, .long he, .ref d1, .ref e1, .int pl])), (m1, .inl (cI, 40, .inl mn)), (m2, .inl (cI, 160, .inl tg)), (s1, .inl (cL, 40, .inr (.inl ms))), (v1, .inl (cL, 40, .inr (.inl ov))), (h1, .inl (cL, 40, .inr (.inl be))), (d1, .inl (cL, 40, .inr (.inl rd))), (e1, .inl (cL, 40, .inr (.inl (vp_updL g i 0))))] H := hP
        have hD : va_D A [(y, .inr (3, [.int tw, .long T, .ref m1, .ref m2, .int kn, .ref s1, .long re, .long gd, .long en, .ref v1, .ref h1, .long he, .ref d1, .ref e1, .int pl])), (m1, .inl (cI, 40, .inl mn)), (m2, .inl (cI, 160, .inl tg)), (s1, .inl (cL, 40, .inr (.inl ms))), (v1, .inl (cL, 40, .inr (.inl ov))), (h1, .inl (cL, 40, .inr (.inl be))), (d1, .inl (cL, 40, .inr (.inl rd))), (e1, .inl (cL, 40, .inr (.inl (vp_updL g i 0))))] := hD
        refine lv_iconst (v := nI 0) hx hb dM_lookAtEdges_15 (by decide) ?_
        refine lv_istore_n (lv' := [(2, .int (nI 0)), (0, .ref y), (1, .int (nI i))]) hx hb dM_lookAtEdges_16 rfl hl (by decide) rfl (fun ls hl => ?_)
        have loop_17 : ∀ (n_17 : Nat) (j : Nat) (g2 : Nat → Int64), (j ≤ 40) → (40 < j + n_17) → (bw_eM ms ov i j g2) → ∀ (H : Heap) (locs : List Loc), va_P (dC, dI) vwCl [(y, .inr (3, [.int tw, .long T, .ref m1, .ref m2, .int kn, .ref s1, .long re, .long gd, .long en, .ref v1, .ref h1, .long he, .ref d1, .ref e1, .int pl])), (m1, .inl (cI, 40, .inl mn)), (m2, .inl (cI, 160, .inl tg)), (s1, .inl (cL, 40, .inr (.inl ms))), (v1, .inl (cL, 40, .inr (.inl ov))), (h1, .inl (cL, 40, .inr (.inl be))), (d1, .inl (cL, 40, .inr (.inl rd))), (e1, .inl (cL, 40, .inr (.inl g2)))] H → va_D A [(y, .inr (3, [.int tw, .long T, .ref m1, .ref m2, .int kn, .ref s1, .long re, .long gd, .long en, .ref v1, .ref h1, .long he, .ref d1, .ref e1, .int pl])), (m1, .inl (cI, 40, .inl mn)), (m2, .inl (cI, 160, .inl tg)), (s1, .inl (cL, 40, .inr (.inl ms))), (v1, .inl (cL, 40, .inr (.inl ov))), (h1, .inl (cL, 40, .inr (.inl be))), (d1, .inl (cL, 40, .inr (.inl rd))), (e1, .inl (cL, 40, .inr (.inl g2)))] → va_S A s.heap H locs → ∀ (ls : Array Slot), lv_has ls 4 [(0, .ref y), (1, .int (nI i)), (2, .int (nI j))] → W p l e (headSpec wsM_lookAtEdges ({ frames := 1, cells := 0, slots := 0, locals := 22 } : Room)).room s m ([.ref y] : List Value).toArray below meth c H locs 0 0 (MQ below (va_Qv (S := (Nat → Int64)) (fun u => bw_edS ms ov u) (fun (u : Nat → Int64) t => va_P (dC, dI) vwCl [(y, .inr (3, [.int tw, .long T, .ref m1, .ref m2, .int kn, .ref s1, .long re, .long gd, .long en, .ref v1, .ref h1, .long he, .ref d1, .ref e1, .int pl])), (m1, .inl (cI, 40, .inl mn)), (m2, .inl (cI, 160, .inl tg)), (s1, .inl (cL, 40, .inr (.inl ms))), (v1, .inl (cL, 40, .inr (.inl ov))), (h1, .inl (cL, 40, .inr (.inl be))), (d1, .inl (cL, 40, .inr (.inl rd))), (e1, .inl (cL, 40, .inr (.inl u)))] t.heap ∧ va_D A [(y, .inr (3, [.int tw, .long T, .ref m1, .ref m2, .int kn, .ref s1, .long re, .long gd, .long en, .ref v1, .ref h1, .long he, .ref d1, .ref e1, .int pl])), (m1, .inl (cI, 40, .inl mn)), (m2, .inl (cI, 160, .inl tg)), (s1, .inl (cL, 40, .inr (.inl ms))), (v1, .inl (cL, 40, .inr (.inl ov))), (h1, .inl (cL, 40, .inr (.inl be))), (d1, .inl (cL, 40, .inr (.inl rd))), (e1, .inl (cL, 40, .inr (.inl u)))]) A) ([.ref y] : List Value).toArray s 0 0 A) (F0 m 17 ls []) := by
          intro n_17
          induction n_17 with
          | zero => intro j g2 hij hfj hM; exfalso; omega
          | succ n_17 ih_17 =>
            intro j g2 hij hfj hM H locs hP hD hS ls hl
            refine lv_iload_n hx hb dM_lookAtEdges_17 rfl (lv_at hl 2 rfl) ?_
            refine lv_bipush (v := nI 40) hx hb dM_lookAtEdges_18 (by decide) ?_
            refine lv_icmp_ge (tgt := 104) hx hb dM_lookAtEdges_20 (by decide) (fun c_2 => ?_) (fun c_2 => ?_)
            · skip
              have c_2 : 40 ≤ j := (nI_leI (a := 40) (b := j) (by omega) (by omega)).mp c_2
              refine lv_iinc (v := nI (i + 1)) (lv' := [(1, .int (nI (i + 1))), (0, .ref y), (2, .int (nI j))]) hx hb dM_lookAtEdges_104 hl (k := 1) rfl (nI_1 _) (by decide) rfl (fun ls hl => ?_)
              refine lv_goto (tgt := 2) hx hb dM_lookAtEdges_107 (by decide) ?_
              exact ih_2 (i + 1) g2 (by omega) (by omega) (bw_eO_s hM (by omega)) H locs hP hD hS ls (lv_sub hl [1, 0] rfl)
            · skip
              have c_2 : ¬ 40 ≤ j := fun z => c_2 ((nI_leI (a := 40) (b := j) (by omega) (by omega)).mpr z)
              refine lv_iconst (v := nI 0) hx hb dM_lookAtEdges_23 (by decide) ?_
              refine lv_istore_n (lv' := [(3, .int (nI 0)), (0, .ref y), (1, .int (nI i)), (2, .int (nI j))]) hx hb dM_lookAtEdges_24 rfl hl (by decide) rfl (fun ls hl => ?_)
              have loop_25 : ∀ (n_25 : Nat) (xx : Nat) (g3 : Nat → Int64), (xx ≤ 40) → (40 < xx + n_25) → (bw_eI ms ov i j xx g3) → ∀ (H : Heap) (locs : List Loc), va_P (dC, dI) vwCl [(y, .inr (3, [.int tw, .long T, .ref m1, .ref m2, .int kn, .ref s1, .long re, .long gd, .long en, .ref v1, .ref h1, .long he, .ref d1, .ref e1, .int pl])), (m1, .inl (cI, 40, .inl mn)), (m2, .inl (cI, 160, .inl tg)), (s1, .inl (cL, 40, .inr (.inl ms))), (v1, .inl (cL, 40, .inr (.inl ov))), (h1, .inl (cL, 40, .inr (.inl be))), (d1, .inl (cL, 40, .inr (.inl rd))), (e1, .inl (cL, 40, .inr (.inl g3)))] H → va_D A [(y, .inr (3, [.int tw, .long T, .ref m1, .ref m2, .int kn, .ref s1, .long re, .long gd, .long en, .ref v1, .ref h1, .long he, .ref d1, .ref e1, .int pl])), (m1, .inl (cI, 40, .inl mn)), (m2, .inl (cI, 160, .inl tg)), (s1, .inl (cL, 40, .inr (.inl ms))), (v1, .inl (cL, 40, .inr (.inl ov))), (h1, .inl (cL, 40, .inr (.inl be))), (d1, .inl (cL, 40, .inr (.inl rd))), (e1, .inl (cL, 40, .inr (.inl g3)))] → va_S A s.heap H locs → ∀ (ls : Array Slot), lv_has ls 4 [(0, .ref y), (1, .int (nI i)), (2, .int (nI j)), (3, .int (nI xx))] → W p l e (headSpec wsM_lookAtEdges ({ frames := 1, cells := 0, slots := 0, locals := 22 } : Room)).room s m ([.ref y] : List Value).toArray below meth c H locs 0 0 (MQ below (va_Qv (S := (Nat → Int64)) (fun u => bw_edS ms ov u) (fun (u : Nat → Int64) t => va_P (dC, dI) vwCl [(y, .inr (3, [.int tw, .long T, .ref m1, .ref m2, .int kn, .ref s1, .long re, .long gd, .long en, .ref v1, .ref h1, .long he, .ref d1, .ref e1, .int pl])), (m1, .inl (cI, 40, .inl mn)), (m2, .inl (cI, 160, .inl tg)), (s1, .inl (cL, 40, .inr (.inl ms))), (v1, .inl (cL, 40, .inr (.inl ov))), (h1, .inl (cL, 40, .inr (.inl be))), (d1, .inl (cL, 40, .inr (.inl rd))), (e1, .inl (cL, 40, .inr (.inl u)))] t.heap ∧ va_D A [(y, .inr (3, [.int tw, .long T, .ref m1, .ref m2, .int kn, .ref s1, .long re, .long gd, .long en, .ref v1, .ref h1, .long he, .ref d1, .ref e1, .int pl])), (m1, .inl (cI, 40, .inl mn)), (m2, .inl (cI, 160, .inl tg)), (s1, .inl (cL, 40, .inr (.inl ms))), (v1, .inl (cL, 40, .inr (.inl ov))), (h1, .inl (cL, 40, .inr (.inl be))), (d1, .inl (cL, 40, .inr (.inl rd))), (e1, .inl (cL, 40, .inr (.inl u)))]) A) ([.ref y] : List Value).toArray s 0 0 A) (F0 m 25 ls []) := by
                intro n_25
                induction n_25 with
                | zero => intro xx g3 hixx hfxx hE; exfalso; omega
                | succ n_25 ih_25 =>
                  intro xx g3 hixx hfxx hE H locs hP hD hS ls hl
                  refine lv_iload_n hx hb dM_lookAtEdges_25 rfl (lv_at hl 3 rfl) ?_
                  refine lv_bipush (v := nI 40) hx hb dM_lookAtEdges_26 (by decide) ?_
                  refine lv_icmp_ge (tgt := 98) hx hb dM_lookAtEdges_28 (by decide) (fun c_3 => ?_) (fun c_3 => ?_)
                  · skip
                    have c_3 : 40 ≤ xx := (nI_leI (a := 40) (b := xx) (by omega) (by omega)).mp c_3
                    refine lv_iinc (v := nI (j + 1)) (lv' := [(2, .int (nI (j + 1))), (0, .ref y), (1, .int (nI i)), (3, .int (nI xx))]) hx hb dM_lookAtEdges_98 hl (k := 2) rfl (nI_1 _) (by decide) rfl (fun ls hl => ?_)
                    refine lv_goto (tgt := 17) hx hb dM_lookAtEdges_101 (by decide) ?_
                    exact ih_17 (j + 1) g3 (by omega) (by omega) (by first | exact bw_eM_1 hE (by omega) | exact bw_eM_2 hE c_3) H locs hP hD hS ls (lv_sub hl [1, 2, 0] rfl)
                  · skip
                    have c_3 : ¬ 40 ≤ xx := fun z => c_3 ((nI_leI (a := 40) (b := xx) (by omega) (by omega)).mpr z)
                    refine lv_aload_n hx hb dM_lookAtEdges_31 rfl (lv_at hl 0 rfl) ?_
                    refine va_get (D := (dC, dI)) (ci := 3) (v := .ref v1) (C := RM) (T := TM) (N := 15) hx hb hT inM hown hK hP 0 rfl rfl 9 (by decide) (hT _ hw_347) (fun _ h9 => h9) rfl dM_lookAtEdges_32 ?_
                    refine lv_iload_n hx hb dM_lookAtEdges_35 rfl (lv_at hl 2 rfl) ?_
                    refine bw_lald hx hb hK hP 4 1 (k := j) rfl rfl (by omega) (by decide) dM_lookAtEdges_36 ?_
                    refine lv_iload_n hx hb dM_lookAtEdges_37 rfl (lv_at hl 1 rfl) ?_
                    refine vp_callSi (W.runS (As := [.long (ov j), .int (nI i)]) (rest := []) ⟨hx, hb, hml, hown, hT⟩ (m_is l (ov j) i (by omega)) (cwS 2 hT g_M_36 rfl rfl rfl (by decide +kernel) ⟨Nat.le_of_ble_eq_true rfl, Nat.le_of_ble_eq_true rfl⟩) preEq rfl rfl hl.1 rfl (lv_room (Nat.le_of_ble_eq_true rfl)) dM_lookAtEdges_38 ⟨Nat.le_of_ble_eq_true rfl, Nat.le_of_ble_eq_true rfl⟩) (fun r_4 hr_4 => ?_)
                    rw [hr_4]; clear hr_4
                    refine lv_if_eq (tgt := 98) hx hb dM_lookAtEdges_41 (by decide) (fun c_5 => ?_) (fun c_5 => ?_)
                    · skip
                      have c_5 := bw_i0.mp c_5
                      refine lv_iinc (v := nI (j + 1)) (lv' := [(2, .int (nI (j + 1))), (0, .ref y), (1, .int (nI i)), (3, .int (nI xx))]) hx hb dM_lookAtEdges_98 hl (k := 2) rfl (nI_1 _) (by decide) rfl (fun ls hl => ?_)
                      refine lv_goto (tgt := 17) hx hb dM_lookAtEdges_101 (by decide) ?_
                      exact ih_17 (j + 1) g3 (by omega) (by omega) (by first | exact bw_eM_1 hE (by omega) | exact bw_eM_2 hE c_5) H locs hP hD hS ls (lv_sub hl [1, 2, 0] rfl)
                    · skip
                      have c_5 := bw_in0 c_5
                      refine lv_aload_n hx hb dM_lookAtEdges_44 rfl (lv_at hl 0 rfl) ?_
                      refine va_get (D := (dC, dI)) (ci := 3) (v := .ref s1) (C := RM) (T := TM) (N := 15) hx hb hT inM hown hK hP 0 rfl rfl 5 (by decide) (hT _ hw_343) (fun _ h9 => h9) rfl dM_lookAtEdges_45 ?_
                      refine lv_iload_n hx hb dM_lookAtEdges_48 rfl (lv_at hl 2 rfl) ?_
                      refine bw_lald hx hb hK hP 3 1 (k := j) rfl rfl (by omega) (by decide) dM_lookAtEdges_49 ?_
                      refine lv_iload_n hx hb dM_lookAtEdges_50 rfl (lv_at hl 3 rfl) ?_
                      refine vp_callSi (W.runS (As := [.long (ms j), .int (nI xx)]) (rest := []) ⟨hx, hb, hml, hown, hT⟩ (m_is l (ms j) xx (by omega)) (cwS 2 hT g_M_36 rfl rfl rfl (by decide +kernel) ⟨Nat.le_of_ble_eq_true rfl, Nat.le_of_ble_eq_true rfl⟩) preEq rfl rfl hl.1 rfl (lv_room (Nat.le_of_ble_eq_true rfl)) dM_lookAtEdges_51 ⟨Nat.le_of_ble_eq_true rfl, Nat.le_of_ble_eq_true rfl⟩) (fun r_6 hr_6 => ?_)
                      rw [hr_6]; clear hr_6
                      refine lv_if_eq (tgt := 92) hx hb dM_lookAtEdges_54 (by decide) (fun c_7 => ?_) (fun c_7 => ?_)
                      · skip
                        have c_7 := bw_i0.mp c_7
                        refine lv_iinc (v := nI (xx + 1)) (lv' := [(3, .int (nI (xx + 1))), (0, .ref y), (1, .int (nI i)), (2, .int (nI j))]) hx hb dM_lookAtEdges_92 hl (k := 3) rfl (nI_1 _) (by decide) rfl (fun ls hl => ?_)
                        refine lv_goto (tgt := 25) hx hb dM_lookAtEdges_95 (by decide) ?_
                        exact ih_25 (xx + 1) g3 (by omega) (by omega) (by first | exact bw_eI_t (by omega) hE c_3 c_5 (Or.inl c_7) | exact bw_eI_t (by omega) hE c_2 c_3 (Or.inr c_7) | exact bw_eI_f hE (Or.inl c_7) | exact bw_eI_f hE (Or.inr ⟨c_5, c_7⟩)) H locs hP hD hS ls (lv_sub hl [1, 2, 3, 0] rfl)
                      · skip
                        have c_7 := bw_in0 c_7
                        refine lv_aload_n hx hb dM_lookAtEdges_57 rfl (lv_at hl 0 rfl) ?_
                        refine va_get (D := (dC, dI)) (ci := 3) (v := .ref v1) (C := RM) (T := TM) (N := 15) hx hb hT inM hown hK hP 0 rfl rfl 9 (by decide) (hT _ hw_347) (fun _ h9 => h9) rfl dM_lookAtEdges_58 ?_
                        refine lv_iload_n hx hb dM_lookAtEdges_61 rfl (lv_at hl 3 rfl) ?_
                        refine bw_lald hx hb hK hP 4 1 (k := xx) rfl rfl (by omega) (by decide) dM_lookAtEdges_62 ?_
                        refine lv_iload_n hx hb dM_lookAtEdges_63 rfl (lv_at hl 1 rfl) ?_
                        refine vp_callSi (W.runS (As := [.long (ov xx), .int (nI i)]) (rest := []) ⟨hx, hb, hml, hown, hT⟩ (m_is l (ov xx) i (by omega)) (cwS 2 hT g_M_36 rfl rfl rfl (by decide +kernel) ⟨Nat.le_of_ble_eq_true rfl, Nat.le_of_ble_eq_true rfl⟩) preEq rfl rfl hl.1 rfl (lv_room (Nat.le_of_ble_eq_true rfl)) dM_lookAtEdges_64 ⟨Nat.le_of_ble_eq_true rfl, Nat.le_of_ble_eq_true rfl⟩) (fun r_8 hr_8 => ?_)
                        rw [hr_8]; clear hr_8
                        refine lv_if_eq (tgt := 75) hx hb dM_lookAtEdges_67 (by decide) (fun c_9 => ?_) (fun c_9 => ?_)
                        · skip
                          have c_9 := bw_i0.mp c_9
                          refine lv_aload_n hx hb dM_lookAtEdges_75 rfl (lv_at hl 0 rfl) ?_
                          refine va_get (D := (dC, dI)) (ci := 3) (v := .ref e1) (C := RM) (T := TM) (N := 15) hx hb hT inM hown hK hP 0 rfl rfl 13 (by decide) (hT _ hw_351) (fun _ h9 => h9) rfl dM_lookAtEdges_76 ?_
                          refine lv_iload_n hx hb dM_lookAtEdges_79 rfl (lv_at hl 1 rfl) ?_
                          refine lv_aload_n hx hb dM_lookAtEdges_80 rfl (lv_at hl 0 rfl) ?_
                          refine va_get (D := (dC, dI)) (ci := 3) (v := .ref e1) (C := RM) (T := TM) (N := 15) hx hb hT inM hown hK hP 0 rfl rfl 13 (by decide) (hT _ hw_351) (fun _ h9 => h9) rfl dM_lookAtEdges_81 ?_
                          refine lv_iload_n hx hb dM_lookAtEdges_84 rfl (lv_at hl 1 rfl) ?_
                          refine bw_lald hx hb hK hP 7 1 (k := i) rfl rfl (by omega) (by decide) dM_lookAtEdges_85 ?_
                          refine lv_iload_n hx hb dM_lookAtEdges_86 rfl (lv_at hl 3 rfl) ?_
                          refine vp_callSl (W.runS (As := [.int (nI xx)]) (rest := [.long (g3 i), .int (nI i), .ref e1]) ⟨hx, hb, hml, hown, hT⟩ (m_bit l xx) (cwS 1 hT g_M_48 rfl rfl rfl (by decide +kernel) ⟨Nat.le_of_ble_eq_true rfl, Nat.le_of_ble_eq_true rfl⟩) preEq rfl rfl hl.1 rfl (lv_room (Nat.le_of_ble_eq_true rfl)) dM_lookAtEdges_87 ⟨Nat.le_of_ble_eq_true rfl, Nat.le_of_ble_eq_true rfl⟩) (fun r_10 hr_10 => ?_)
                          rw [hr_10]; clear hr_10
                          refine lv_lor hx hb dM_lookAtEdges_90 ?_
                          refine bw_last hx hb hK hP hD hS 7 1 (k := i) rfl rfl (by omega) (by decide) dM_lookAtEdges_91 (fun H locs hP hD hS => ?_)
                          have hP : va_P (dC, dI) vwCl [(y, .inr (3, [.int tw, .long T, .ref m1, .ref m2, .int kn, .ref s1, .long re, .long gd, .long en, .ref v1, .ref h1, .long he, .ref d1, .ref e1, .int pl])), (m1, .inl (cI, 40, .inl mn)), (m2, .inl (cI, 160, .inl tg)), (s1, .inl (cL, 40, .inr (.inl ms))), (v1, .inl (cL, 40, .inr (.inl ov))), (h1, .inl (cL, 40, .inr (.inl be))), (d1, .inl (cL, 40, .inr (.inl rd))), (e1, .inl (cL, 40, .inr (.inl (vp_updL g3 i ((g3 i) ||| (bw_b xx))))))] H := hP
                          have hD : va_D A [(y, .inr (3, [.int tw, .long T, .ref m1, .ref m2, .int kn, .ref s1, .long re, .long gd, .long en, .ref v1, .ref h1, .long he, .ref d1, .ref e1, .int pl])), (m1, .inl (cI, 40, .inl mn)), (m2, .inl (cI, 160, .inl tg)), (s1, .inl (cL, 40, .inr (.inl ms))), (v1, .inl (cL, 40, .inr (.inl ov))), (h1, .inl (cL, 40, .inr (.inl be))), (d1, .inl (cL, 40, .inr (.inl rd))), (e1, .inl (cL, 40, .inr (.inl (vp_updL g3 i ((g3 i) ||| (bw_b xx))))))] := hD
                          refine lv_iinc (v := nI (xx + 1)) (lv' := [(3, .int (nI (xx + 1))), (0, .ref y), (1, .int (nI i)), (2, .int (nI j))]) hx hb dM_lookAtEdges_92 hl (k := 3) rfl (nI_1 _) (by decide) rfl (fun ls hl => ?_)
                          refine lv_goto (tgt := 25) hx hb dM_lookAtEdges_95 (by decide) ?_
                          exact ih_25 (xx + 1) (vp_updL g3 i ((g3 i) ||| (bw_b xx))) (by omega) (by omega) (by first | exact bw_eI_t (by omega) hE c_5 c_7 (Or.inl c_9) | exact bw_eI_t (by omega) hE c_3 c_5 (Or.inr c_9) | exact bw_eI_f hE (Or.inl c_9) | exact bw_eI_f hE (Or.inr ⟨c_7, c_9⟩)) H locs hP hD hS ls (lv_sub hl [1, 2, 3, 0] rfl)
                        · skip
                          have c_9 := bw_in0 c_9
                          refine lv_iload_n hx hb dM_lookAtEdges_70 rfl (lv_at hl 3 rfl) ?_
                          refine lv_iload_n hx hb dM_lookAtEdges_71 rfl (lv_at hl 1 rfl) ?_
                          refine lv_icmp_ne (tgt := 92) hx hb dM_lookAtEdges_72 (by decide) (fun c_11 => ?_) (fun c_11 => ?_)
                          · skip
                            have c_11 : ¬ xx = i := fun z => c_11 ((nI_eq (a := xx) (b := i) (by omega) (by omega)).mpr z)
                            refine lv_iinc (v := nI (xx + 1)) (lv' := [(3, .int (nI (xx + 1))), (0, .ref y), (1, .int (nI i)), (2, .int (nI j))]) hx hb dM_lookAtEdges_92 hl (k := 3) rfl (nI_1 _) (by decide) rfl (fun ls hl => ?_)
                            refine lv_goto (tgt := 25) hx hb dM_lookAtEdges_95 (by decide) ?_
                            exact ih_25 (xx + 1) g3 (by omega) (by omega) (by first | exact bw_eI_t (by omega) hE c_7 c_9 (Or.inl c_11) | exact bw_eI_t (by omega) hE c_5 c_7 (Or.inr c_11) | exact bw_eI_f hE (Or.inl c_11) | exact bw_eI_f hE (Or.inr ⟨c_9, c_11⟩)) H locs hP hD hS ls (lv_sub hl [1, 2, 3, 0] rfl)
                          · skip
                            have c_11 : xx = i := (nI_eq (a := xx) (b := i) (by omega) (by omega)).mp c_11
                            refine lv_aload_n hx hb dM_lookAtEdges_75 rfl (lv_at hl 0 rfl) ?_
                            refine va_get (D := (dC, dI)) (ci := 3) (v := .ref e1) (C := RM) (T := TM) (N := 15) hx hb hT inM hown hK hP 0 rfl rfl 13 (by decide) (hT _ hw_351) (fun _ h9 => h9) rfl dM_lookAtEdges_76 ?_
                            refine lv_iload_n hx hb dM_lookAtEdges_79 rfl (lv_at hl 1 rfl) ?_
                            refine lv_aload_n hx hb dM_lookAtEdges_80 rfl (lv_at hl 0 rfl) ?_
                            refine va_get (D := (dC, dI)) (ci := 3) (v := .ref e1) (C := RM) (T := TM) (N := 15) hx hb hT inM hown hK hP 0 rfl rfl 13 (by decide) (hT _ hw_351) (fun _ h9 => h9) rfl dM_lookAtEdges_81 ?_
                            refine lv_iload_n hx hb dM_lookAtEdges_84 rfl (lv_at hl 1 rfl) ?_
                            refine bw_lald hx hb hK hP 7 1 (k := i) rfl rfl (by omega) (by decide) dM_lookAtEdges_85 ?_
                            refine lv_iload_n hx hb dM_lookAtEdges_86 rfl (lv_at hl 3 rfl) ?_
                            refine vp_callSl (W.runS (As := [.int (nI xx)]) (rest := [.long (g3 i), .int (nI i), .ref e1]) ⟨hx, hb, hml, hown, hT⟩ (m_bit l xx) (cwS 1 hT g_M_48 rfl rfl rfl (by decide +kernel) ⟨Nat.le_of_ble_eq_true rfl, Nat.le_of_ble_eq_true rfl⟩) preEq rfl rfl hl.1 rfl (lv_room (Nat.le_of_ble_eq_true rfl)) dM_lookAtEdges_87 ⟨Nat.le_of_ble_eq_true rfl, Nat.le_of_ble_eq_true rfl⟩) (fun r_12 hr_12 => ?_)
                            rw [hr_12]; clear hr_12
                            refine lv_lor hx hb dM_lookAtEdges_90 ?_
                            refine bw_last hx hb hK hP hD hS 7 1 (k := i) rfl rfl (by omega) (by decide) dM_lookAtEdges_91 (fun H locs hP hD hS => ?_)
                            have hP : va_P (dC, dI) vwCl [(y, .inr (3, [.int tw, .long T, .ref m1, .ref m2, .int kn, .ref s1, .long re, .long gd, .long en, .ref v1, .ref h1, .long he, .ref d1, .ref e1, .int pl])), (m1, .inl (cI, 40, .inl mn)), (m2, .inl (cI, 160, .inl tg)), (s1, .inl (cL, 40, .inr (.inl ms))), (v1, .inl (cL, 40, .inr (.inl ov))), (h1, .inl (cL, 40, .inr (.inl be))), (d1, .inl (cL, 40, .inr (.inl rd))), (e1, .inl (cL, 40, .inr (.inl (vp_updL g3 i ((g3 i) ||| (bw_b xx))))))] H := hP
                            have hD : va_D A [(y, .inr (3, [.int tw, .long T, .ref m1, .ref m2, .int kn, .ref s1, .long re, .long gd, .long en, .ref v1, .ref h1, .long he, .ref d1, .ref e1, .int pl])), (m1, .inl (cI, 40, .inl mn)), (m2, .inl (cI, 160, .inl tg)), (s1, .inl (cL, 40, .inr (.inl ms))), (v1, .inl (cL, 40, .inr (.inl ov))), (h1, .inl (cL, 40, .inr (.inl be))), (d1, .inl (cL, 40, .inr (.inl rd))), (e1, .inl (cL, 40, .inr (.inl (vp_updL g3 i ((g3 i) ||| (bw_b xx))))))] := hD
                            refine lv_iinc (v := nI (xx + 1)) (lv' := [(3, .int (nI (xx + 1))), (0, .ref y), (1, .int (nI i)), (2, .int (nI j))]) hx hb dM_lookAtEdges_92 hl (k := 3) rfl (nI_1 _) (by decide) rfl (fun ls hl => ?_)
                            refine lv_goto (tgt := 25) hx hb dM_lookAtEdges_95 (by decide) ?_
                            exact ih_25 (xx + 1) (vp_updL g3 i ((g3 i) ||| (bw_b xx))) (by omega) (by omega) (by first | exact bw_eI_t (by omega) hE c_7 c_9 (Or.inl c_11) | exact bw_eI_t (by omega) hE c_5 c_7 (Or.inr c_11) | exact bw_eI_f hE (Or.inl c_11) | exact bw_eI_f hE (Or.inr ⟨c_9, c_11⟩)) H locs hP hD hS ls (lv_sub hl [1, 2, 3, 0] rfl)
              exact loop_25 41 0 g2 (by omega) (by omega) (bw_eI_0 hM) H locs hP hD hS ls (lv_sub hl [1, 2, 3, 0] rfl)
        exact loop_17 41 0 (vp_updL g i 0) (by omega) (by omega) (bw_eM_0 hO) H locs hP hD hS ls (lv_sub hl [1, 2, 0] rfl)
  exact loop_2 41 0 ed (by omega) (by omega) (bw_eO_0) s.heap [] hP hD hS ls (lv_sub hl [1, 0] rfl)
set_option maxHeartbeats 4000000 in
set_option maxRecDepth 100000 in
theorem m_lookAtRounds (l : Launch) (dC : Nat → ClassId) (dI : Nat → Nat → Nat) (y m1 m2 s1 v1 h1 d1 e1 : Nat) (cI cL : ClassId) (tw : Int32) (T : Int64) (mn tg : Nat → Int32) (kn : Int32) (ms : Nat → Int64) (re gd en : Int64) (ov be : Nat → Int64) (he : Int64) (rd ed : Nat → Int64) (pl : Int32) (hre : ∀ i, bw_m re i = true → i < 40) (hz : ∀ h, h < 40 → rd h = 0) (sz : Nat) : Met l yM_lookAtRounds wsM_lookAtRounds ({ frames := 2, cells := 0, slots := 0, locals := 53 } : Room) (bw_Wr (dC, dI) [(cI, .int), (cL, .long)] [(y, .inr (3, [.int tw, .long T, .ref m1, .ref m2, .int kn, .ref s1, .long re, .long gd, .long en, .ref v1, .ref h1, .long he, .ref d1, .ref e1, .int pl])), (m1, .inl (cI, 40, .inl mn)), (m2, .inl (cI, 160, .inl tg)), (s1, .inl (cL, 40, .inr (.inl ms))), (v1, .inl (cL, 40, .inr (.inl ov))), (h1, .inl (cL, 40, .inr (.inl be))), (d1, .inl (cL, 40, .inr (.inl rd))), (e1, .inl (cL, 40, .inr (.inl ed)))] sz [.ref y]) (va_Qv (S := (Int64 × (Nat → Int64) × Int32)) (fun u => bw_rI T re ms ov 40 u.1 u.2.1 ∧ ∃ lf, u.2.2 = bw_i (decide (lf = 0)) ∧ bw_pA re ms ov lf ∧ bw_pB ms ov lf) (fun (u : Int64 × (Nat → Int64) × Int32) t => va_P (dC, dI) vwCl [(y, .inr (3, [.int tw, .long T, .ref m1, .ref m2, .int kn, .ref s1, .long re, .long gd, .long en, .ref v1, .ref h1, .long u.1, .ref d1, .ref e1, .int u.2.2])), (m1, .inl (cI, 40, .inl mn)), (m2, .inl (cI, 160, .inl tg)), (s1, .inl (cL, 40, .inr (.inl ms))), (v1, .inl (cL, 40, .inr (.inl ov))), (h1, .inl (cL, 40, .inr (.inl be))), (d1, .inl (cL, 40, .inr (.inl u.2.1))), (e1, .inl (cL, 40, .inr (.inl ed)))] t.heap ∧ va_D (va_A [(y, .inr (3, [.int tw, .long T, .ref m1, .ref m2, .int kn, .ref s1, .long re, .long gd, .long en, .ref v1, .ref h1, .long he, .ref d1, .ref e1, .int pl])), (m1, .inl (cI, 40, .inl mn)), (m2, .inl (cI, 160, .inl tg)), (s1, .inl (cL, 40, .inr (.inl ms))), (v1, .inl (cL, 40, .inr (.inl ov))), (h1, .inl (cL, 40, .inr (.inl be))), (d1, .inl (cL, 40, .inr (.inl rd))), (e1, .inl (cL, 40, .inr (.inl ed)))] sz) [(y, .inr (3, [.int tw, .long T, .ref m1, .ref m2, .int kn, .ref s1, .long re, .long gd, .long en, .ref v1, .ref h1, .long u.1, .ref d1, .ref e1, .int u.2.2])), (m1, .inl (cI, 40, .inl mn)), (m2, .inl (cI, 160, .inl tg)), (s1, .inl (cL, 40, .inr (.inl ms))), (v1, .inl (cL, 40, .inr (.inl ov))), (h1, .inl (cL, 40, .inr (.inl be))), (d1, .inl (cL, 40, .inr (.inl u.2.1))), (e1, .inl (cL, 40, .inr (.inl ed)))]) (va_A [(y, .inr (3, [.int tw, .long T, .ref m1, .ref m2, .int kn, .ref s1, .long re, .long gd, .long en, .ref v1, .ref h1, .long he, .ref d1, .ref e1, .int pl])), (m1, .inl (cI, 40, .inl mn)), (m2, .inl (cI, 160, .inl tg)), (s1, .inl (cL, 40, .inr (.inl ms))), (v1, .inl (cL, 40, .inr (.inl ov))), (h1, .inl (cL, 40, .inr (.inl be))), (d1, .inl (cL, 40, .inr (.inl rd))), (e1, .inl (cL, 40, .inr (.inl ed)))] sz)) 0 0 (va_A [(y, .inr (3, [.int tw, .long T, .ref m1, .ref m2, .int kn, .ref s1, .long re, .long gd, .long en, .ref v1, .ref h1, .long he, .ref d1, .ref e1, .int pl])), (m1, .inl (cI, 40, .inl mn)), (m2, .inl (cI, 160, .inl tg)), (s1, .inl (cL, 40, .inr (.inl ms))), (v1, .inl (cL, 40, .inr (.inl ov))), (h1, .inl (cL, 40, .inr (.inl be))), (d1, .inl (cL, 40, .inr (.inl rd))), (e1, .inl (cL, 40, .inr (.inl ed)))] sz) := by
  refine Met.ofW (cc := cM_lookAtRounds) (maxL := 5) (ret := none) (by decide) rfl ?_
  intro p e s m args below meth c s₁ B hml hv
  obtain ⟨rfl, hsz, hP, hK, hN, hD0⟩ := hv
  have hx := B.exec
  have hb := B.bytes
  have hr := B.returns
  have hts := atoms_spec (ws := wsM_lookAtRounds) B.pre
  have hT : ∀ w ∈ bwB, w.before _ s = true := fun w h => hts w (List.mem_cons_of_mem _ h)
  have hown : s.vm.findClass RM = some m.cls := findClass_of_methodNamed B.named
  have hlocks := B.notSynchronized
  subst hsz
  have hD := hD0.self (sz := s.heap.size)
  generalize hAe : va_A [(y, .inr (3, [.int tw, .long T, .ref m1, .ref m2, .int kn, .ref s1, .long re, .long gd, .long en, .ref v1, .ref h1, .long he, .ref d1, .ref e1, .int pl])), (m1, .inl (cI, 40, .inl mn)), (m2, .inl (cI, 160, .inl tg)), (s1, .inl (cL, 40, .inr (.inl ms))), (v1, .inl (cL, 40, .inr (.inl ov))), (h1, .inl (cL, 40, .inr (.inl be))), (d1, .inl (cL, 40, .inr (.inl rd))), (e1, .inl (cL, 40, .inr (.inl ed)))] s.heap.size = A at hD ⊢
  have hA : ∀ q : Nat, s.heap.size ≤ q → A q := fun q h => by rw [← hAe]; exact Or.inr h
  have hS : va_S A s.heap s.heap [] := va_S.rf
  have hP : va_P (dC, dI) vwCl [(y, .inr (3, [.int tw, .long T, .ref m1, .ref m2, .int kn, .ref s1, .long re, .long gd, .long en, .ref v1, .ref h1, .long he, .ref d1, .ref e1, .int pl])), (m1, .inl (cI, 40, .inl mn)), (m2, .inl (cI, 160, .inl tg)), (s1, .inl (cL, 40, .inr (.inl ms))), (v1, .inl (cL, 40, .inr (.inl ov))), (h1, .inl (cL, 40, .inr (.inl be))), (d1, .inl (cL, 40, .inr (.inl rd))), (e1, .inl (cL, 40, .inr (.inl ed)))] s.heap := hP
  have hl := lv_entry ([.ref y]) (n := 5) (Nat.le_of_ble_eq_true rfl)
  rw [lg_entry_eq]
  generalize (lg_sl ([.ref y]) ++ List.replicate (5 - (lg_sl ([.ref y])).length) Slot.unset).toArray = ls at hl ⊢
  have hl : lv_has ls 5 [(0, .ref y)] := hl
  refine lv_aload_n hx hb dM_lookAtRounds_0 rfl (lv_at hl 0 rfl) ?_
  refine lv_lconst (v := 0) hx hb dM_lookAtRounds_1 (by decide) ?_
  refine va_put (D := (dC, dI)) (ci := 3) (v := .long 0) (ty := .long) (C := RM) (T := TM) (N := 15) hx hb hT inM tyM tokM nmM hown hK hP hD hS 0 rfl rfl 11 (by decide) (hT _ hw_349) (fun _ h9 => h9) rfl (by decide +kernel) rfl rfl (Nat.le_of_ble_eq_true rfl) dM_lookAtRounds_2 (fun H locs hP hD hS => ?_)
  have hP : va_P (dC, dI) vwCl [(y, .inr (3, [.int tw, .long T, .ref m1, .ref m2, .int kn, .ref s1, .long re, .long gd, .long en, .ref v1, .ref h1, .long 0, .ref d1, .ref e1, .int pl])), (m1, .inl (cI, 40, .inl mn)), (m2, .inl (cI, 160, .inl tg)), (s1, .inl (cL, 40, .inr (.inl ms))), (v1, .inl (cL, 40, .inr (.inl ov))), (h1, .inl (cL, 40, .inr (.inl be))), (d1, .inl (cL, 40, .inr (.inl rd))), (e1, .inl (cL, 40, .inr (.inl ed)))] H := hP
  have hD : va_D A [(y, .inr (3, [.int tw, .long T, .ref m1, .ref m2, .int kn, .ref s1, .long re, .long gd, .long en, .ref v1, .ref h1, .long 0, .ref d1, .ref e1, .int pl])), (m1, .inl (cI, 40, .inl mn)), (m2, .inl (cI, 160, .inl tg)), (s1, .inl (cL, 40, .inr (.inl ms))), (v1, .inl (cL, 40, .inr (.inl ov))), (h1, .inl (cL, 40, .inr (.inl be))), (d1, .inl (cL, 40, .inr (.inl rd))), (e1, .inl (cL, 40, .inr (.inl ed)))] := hD
  refine lv_iconst (v := nI 0) hx hb dM_lookAtRounds_5 (by decide) ?_
  refine lv_istore_n (lv' := [(1, .int (nI 0)), (0, .ref y)]) hx hb dM_lookAtRounds_6 rfl hl (by decide) rfl (fun ls hl => ?_)
  have loop_7 : ∀ (n_7 : Nat) (i : Nat) (he2 : Int64) (g : Nat → Int64), (i ≤ 40) → (40 < i + n_7) → (bw_rI T re ms ov i he2 g) → ∀ (H : Heap) (locs : List Loc), va_P (dC, dI) vwCl [(y, .inr (3, [.int tw, .long T, .ref m1, .ref m2, .int kn, .ref s1, .long re, .long gd, .long en, .ref v1, .ref h1, .long he2, .ref d1, .ref e1, .int pl])), (m1, .inl (cI, 40, .inl mn)), (m2, .inl (cI, 160, .inl tg)), (s1, .inl (cL, 40, .inr (.inl ms))), (v1, .inl (cL, 40, .inr (.inl ov))), (h1, .inl (cL, 40, .inr (.inl be))), (d1, .inl (cL, 40, .inr (.inl g))), (e1, .inl (cL, 40, .inr (.inl ed)))] H → va_D A [(y, .inr (3, [.int tw, .long T, .ref m1, .ref m2, .int kn, .ref s1, .long re, .long gd, .long en, .ref v1, .ref h1, .long he2, .ref d1, .ref e1, .int pl])), (m1, .inl (cI, 40, .inl mn)), (m2, .inl (cI, 160, .inl tg)), (s1, .inl (cL, 40, .inr (.inl ms))), (v1, .inl (cL, 40, .inr (.inl ov))), (h1, .inl (cL, 40, .inr (.inl be))), (d1, .inl (cL, 40, .inr (.inl g))), (e1, .inl (cL, 40, .inr (.inl ed)))] → va_S A s.heap H locs → ∀ (ls : Array Slot), lv_has ls 5 [(0, .ref y), (1, .int (nI i))] → W p l e (headSpec wsM_lookAtRounds ({ frames := 2, cells := 0, slots := 0, locals := 53 } : Room)).room s m ([.ref y] : List Value).toArray below meth c H locs 0 0 (MQ below (va_Qv (S := (Int64 × (Nat → Int64) × Int32)) (fun u => bw_rI T re ms ov 40 u.1 u.2.1 ∧ ∃ lf, u.2.2 = bw_i (decide (lf = 0)) ∧ bw_pA re ms ov lf ∧ bw_pB ms ov lf) (fun (u : Int64 × (Nat → Int64) × Int32) t => va_P (dC, dI) vwCl [(y, .inr (3, [.int tw, .long T, .ref m1, .ref m2, .int kn, .ref s1, .long re, .long gd, .long en, .ref v1, .ref h1, .long u.1, .ref d1, .ref e1, .int u.2.2])), (m1, .inl (cI, 40, .inl mn)), (m2, .inl (cI, 160, .inl tg)), (s1, .inl (cL, 40, .inr (.inl ms))), (v1, .inl (cL, 40, .inr (.inl ov))), (h1, .inl (cL, 40, .inr (.inl be))), (d1, .inl (cL, 40, .inr (.inl u.2.1))), (e1, .inl (cL, 40, .inr (.inl ed)))] t.heap ∧ va_D A [(y, .inr (3, [.int tw, .long T, .ref m1, .ref m2, .int kn, .ref s1, .long re, .long gd, .long en, .ref v1, .ref h1, .long u.1, .ref d1, .ref e1, .int u.2.2])), (m1, .inl (cI, 40, .inl mn)), (m2, .inl (cI, 160, .inl tg)), (s1, .inl (cL, 40, .inr (.inl ms))), (v1, .inl (cL, 40, .inr (.inl ov))), (h1, .inl (cL, 40, .inr (.inl be))), (d1, .inl (cL, 40, .inr (.inl u.2.1))), (e1, .inl (cL, 40, .inr (.inl ed)))]) A) ([.ref y] : List Value).toArray s 0 0 A) (F0 m 7 ls []) := by
    intro n_7
    induction n_7 with
    | zero => intro i he2 g hii hfi hI; exfalso; omega
    | succ n_7 ih_7 =>
      intro i he2 g hii hfi hI H locs hP hD hS ls hl
      refine lv_iload_n hx hb dM_lookAtRounds_7 rfl (lv_at hl 1 rfl) ?_
      refine lv_bipush (v := nI 40) hx hb dM_lookAtRounds_8 (by decide) ?_
      refine lv_icmp_ge (tgt := 129) hx hb dM_lookAtRounds_10 (by decide) (fun c_1 => ?_) (fun c_1 => ?_)
      · skip
        have c_1 : 40 ≤ i := (nI_leI (a := 40) (b := i) (by omega) (by omega)).mp c_1
        refine lv_aload_n hx hb dM_lookAtRounds_129 rfl (lv_at hl 0 rfl) ?_
        refine va_get (D := (dC, dI)) (ci := 3) (v := .long re) (C := RM) (T := TM) (N := 15) hx hb hT inM hown hK hP 0 rfl rfl 6 (by decide) (hT _ hw_344) (fun _ h9 => h9) rfl dM_lookAtRounds_130 ?_
        refine lv_lstore_n (lv' := [(1, .long re), (0, .ref y)]) hx hb dM_lookAtRounds_133 rfl hl (by decide) rfl (fun ls hl => ?_)
        refine lv_iconst (v := 1) hx hb dM_lookAtRounds_134 (by decide) ?_
        refine lv_istore_n (lv' := [(3, .int 1), (1, .long re), (0, .ref y)]) hx hb dM_lookAtRounds_135 rfl hl (by decide) rfl (fun ls hl => ?_)
        have loop_136 : ∀ (n_136 : Nat) (lf : Int64) (mo : Int32), (bw_pA re ms ov lf) → (bw_pM ms ov lf mo n_136) → ∀ (ls : Array Slot), lv_has ls 5 [(0, .ref y), (1, .long lf), (3, .int mo)] → W p l e (headSpec wsM_lookAtRounds ({ frames := 2, cells := 0, slots := 0, locals := 53 } : Room)).room s m ([.ref y] : List Value).toArray below meth c H locs 0 0 (MQ below (va_Qv (S := (Int64 × (Nat → Int64) × Int32)) (fun u => bw_rI T re ms ov 40 u.1 u.2.1 ∧ ∃ lf, u.2.2 = bw_i (decide (lf = 0)) ∧ bw_pA re ms ov lf ∧ bw_pB ms ov lf) (fun (u : Int64 × (Nat → Int64) × Int32) t => va_P (dC, dI) vwCl [(y, .inr (3, [.int tw, .long T, .ref m1, .ref m2, .int kn, .ref s1, .long re, .long gd, .long en, .ref v1, .ref h1, .long u.1, .ref d1, .ref e1, .int u.2.2])), (m1, .inl (cI, 40, .inl mn)), (m2, .inl (cI, 160, .inl tg)), (s1, .inl (cL, 40, .inr (.inl ms))), (v1, .inl (cL, 40, .inr (.inl ov))), (h1, .inl (cL, 40, .inr (.inl be))), (d1, .inl (cL, 40, .inr (.inl u.2.1))), (e1, .inl (cL, 40, .inr (.inl ed)))] t.heap ∧ va_D A [(y, .inr (3, [.int tw, .long T, .ref m1, .ref m2, .int kn, .ref s1, .long re, .long gd, .long en, .ref v1, .ref h1, .long u.1, .ref d1, .ref e1, .int u.2.2])), (m1, .inl (cI, 40, .inl mn)), (m2, .inl (cI, 160, .inl tg)), (s1, .inl (cL, 40, .inr (.inl ms))), (v1, .inl (cL, 40, .inr (.inl ov))), (h1, .inl (cL, 40, .inr (.inl be))), (d1, .inl (cL, 40, .inr (.inl u.2.1))), (e1, .inl (cL, 40, .inr (.inl ed)))]) A) ([.ref y] : List Value).toArray s 0 0 A) (F0 m 136 ls []) := by
          intro n_136
          induction n_136 with
          | zero => intro lf mo hA9 hM9; exact (bw_pM_z hM9).elim
          | succ n_136 ih_136 =>
            intro lf mo hA9 hM9 ls hl
            refine lv_iload_n hx hb dM_lookAtRounds_136 rfl (lv_at hl 2 rfl) ?_
            refine lv_if_eq (tgt := 213) hx hb dM_lookAtRounds_137 (by decide) (fun c_2 => ?_) (fun c_2 => ?_)
            · skip
              refine lv_aload_n hx hb dM_lookAtRounds_213 rfl (lv_at hl 0 rfl) ?_
              refine lv_lload_n hx hb dM_lookAtRounds_214 rfl (lv_at hl 1 rfl) ?_
              refine lv_lconst (v := 0) hx hb dM_lookAtRounds_215 (by decide) ?_
              refine W.lcmp hx hb dM_lookAtRounds_216 ?_
              refine lv_if_ne (tgt := 224) hx hb dM_lookAtRounds_217 (by decide) (fun c_3 => ?_) (fun c_3 => ?_)
              · skip
                have c_3 := fun z => c_3 (bw_cmp0.mpr z)
                refine lv_iconst (v := 0) hx hb dM_lookAtRounds_224 (by decide) ?_
                refine va_put (D := (dC, dI)) (ci := 3) (v := .int 0) (ty := .boolean) (C := RM) (T := TM) (N := 15) hx hb hT inM tyM tokM nmM hown hK hP hD hS 0 rfl rfl 14 (by decide) (hT _ hw_352) (fun _ h9 => h9) rfl (by decide +kernel) rfl rfl (Nat.le_of_ble_eq_true rfl) dM_lookAtRounds_225 (fun H locs hP hD hS => ?_)
                have hP : va_P (dC, dI) vwCl [(y, .inr (3, [.int tw, .long T, .ref m1, .ref m2, .int kn, .ref s1, .long re, .long gd, .long en, .ref v1, .ref h1, .long he2, .ref d1, .ref e1, .int 0])), (m1, .inl (cI, 40, .inl mn)), (m2, .inl (cI, 160, .inl tg)), (s1, .inl (cL, 40, .inr (.inl ms))), (v1, .inl (cL, 40, .inr (.inl ov))), (h1, .inl (cL, 40, .inr (.inl be))), (d1, .inl (cL, 40, .inr (.inl g))), (e1, .inl (cL, 40, .inr (.inl ed)))] H := hP
                have hD : va_D A [(y, .inr (3, [.int tw, .long T, .ref m1, .ref m2, .int kn, .ref s1, .long re, .long gd, .long en, .ref v1, .ref h1, .long he2, .ref d1, .ref e1, .int 0])), (m1, .inl (cI, 40, .inl mn)), (m2, .inl (cI, 160, .inl tg)), (s1, .inl (cL, 40, .inr (.inl ms))), (v1, .inl (cL, 40, .inr (.inl ov))), (h1, .inl (cL, 40, .inr (.inl be))), (d1, .inl (cL, 40, .inr (.inl g))), (e1, .inl (cL, 40, .inr (.inl ed)))] := hD
                have hP9 := hP.sub (ws' := [(y, .inr (3, [.int tw, .long T, .ref m1, .ref m2, .int kn, .ref s1, .long re, .long gd, .long en, .ref v1, .ref h1, .long he2, .ref d1, .ref e1, .int 0])), (m1, .inl (cI, 40, .inl mn)), (m2, .inl (cI, 160, .inl tg)), (s1, .inl (cL, 40, .inr (.inl ms))), (v1, .inl (cL, 40, .inr (.inl ov))), (h1, .inl (cL, 40, .inr (.inl be))), (d1, .inl (cL, 40, .inr (.inl g))), (e1, .inl (cL, 40, .inr (.inl ed)))]) [0, 1, 2, 3, 4, 5, 6, 7] rfl
                have hD9 := hD.sub (ws' := [(y, .inr (3, [.int tw, .long T, .ref m1, .ref m2, .int kn, .ref s1, .long re, .long gd, .long en, .ref v1, .ref h1, .long he2, .ref d1, .ref e1, .int 0])), (m1, .inl (cI, 40, .inl mn)), (m2, .inl (cI, 160, .inl tg)), (s1, .inl (cL, 40, .inr (.inl ms))), (v1, .inl (cL, 40, .inr (.inl ov))), (h1, .inl (cL, 40, .inr (.inl be))), (d1, .inl (cL, 40, .inr (.inl g))), (e1, .inl (cL, 40, .inr (.inl ed)))]) [0, 1, 2, 3, 4, 5, 6, 7] (by decide) rfl
                exact W.vret hx hb hr (fun t9 ht9 hW9 => ⟨⟨(he2, g, 0), rfl, ⟨by rw [← (show i = 40 by omega)]; exact hI, lf, by first | exact (bw_iT (decide_eq_true c_3)).symm | exact (bw_iF (decide_eq_false c_3)).symm, hA9, bw_pM_x hM9 c_2⟩, by rw [ht9]; exact hP9, hD9⟩, hS.F ht9⟩) hS.2.2 dM_lookAtRounds_228
              · skip
                have c_3 := bw_cmp0.mp c_3
                refine lv_iconst (v := 1) hx hb dM_lookAtRounds_220 (by decide) ?_
                refine lv_goto (tgt := 225) hx hb dM_lookAtRounds_221 (by decide) ?_
                refine va_put (D := (dC, dI)) (ci := 3) (v := .int 1) (ty := .boolean) (C := RM) (T := TM) (N := 15) hx hb hT inM tyM tokM nmM hown hK hP hD hS 0 rfl rfl 14 (by decide) (hT _ hw_352) (fun _ h9 => h9) rfl (by decide +kernel) rfl rfl (Nat.le_of_ble_eq_true rfl) dM_lookAtRounds_225 (fun H locs hP hD hS => ?_)
                have hP : va_P (dC, dI) vwCl [(y, .inr (3, [.int tw, .long T, .ref m1, .ref m2, .int kn, .ref s1, .long re, .long gd, .long en, .ref v1, .ref h1, .long he2, .ref d1, .ref e1, .int 1])), (m1, .inl (cI, 40, .inl mn)), (m2, .inl (cI, 160, .inl tg)), (s1, .inl (cL, 40, .inr (.inl ms))), (v1, .inl (cL, 40, .inr (.inl ov))), (h1, .inl (cL, 40, .inr (.inl be))), (d1, .inl (cL, 40, .inr (.inl g))), (e1, .inl (cL, 40, .inr (.inl ed)))] H := hP
                have hD : va_D A [(y, .inr (3, [.int tw, .long T, .ref m1, .ref m2, .int kn, .ref s1, .long re, .long gd, .long en, .ref v1, .ref h1, .long he2, .ref d1, .ref e1, .int 1])), (m1, .inl (cI, 40, .inl mn)), (m2, .inl (cI, 160, .inl tg)), (s1, .inl (cL, 40, .inr (.inl ms))), (v1, .inl (cL, 40, .inr (.inl ov))), (h1, .inl (cL, 40, .inr (.inl be))), (d1, .inl (cL, 40, .inr (.inl g))), (e1, .inl (cL, 40, .inr (.inl ed)))] := hD
                have hP9 := hP.sub (ws' := [(y, .inr (3, [.int tw, .long T, .ref m1, .ref m2, .int kn, .ref s1, .long re, .long gd, .long en, .ref v1, .ref h1, .long he2, .ref d1, .ref e1, .int 1])), (m1, .inl (cI, 40, .inl mn)), (m2, .inl (cI, 160, .inl tg)), (s1, .inl (cL, 40, .inr (.inl ms))), (v1, .inl (cL, 40, .inr (.inl ov))), (h1, .inl (cL, 40, .inr (.inl be))), (d1, .inl (cL, 40, .inr (.inl g))), (e1, .inl (cL, 40, .inr (.inl ed)))]) [0, 1, 2, 3, 4, 5, 6, 7] rfl
                have hD9 := hD.sub (ws' := [(y, .inr (3, [.int tw, .long T, .ref m1, .ref m2, .int kn, .ref s1, .long re, .long gd, .long en, .ref v1, .ref h1, .long he2, .ref d1, .ref e1, .int 1])), (m1, .inl (cI, 40, .inl mn)), (m2, .inl (cI, 160, .inl tg)), (s1, .inl (cL, 40, .inr (.inl ms))), (v1, .inl (cL, 40, .inr (.inl ov))), (h1, .inl (cL, 40, .inr (.inl be))), (d1, .inl (cL, 40, .inr (.inl g))), (e1, .inl (cL, 40, .inr (.inl ed)))]) [0, 1, 2, 3, 4, 5, 6, 7] (by decide) rfl
                exact W.vret hx hb hr (fun t9 ht9 hW9 => ⟨⟨(he2, g, 1), rfl, ⟨by rw [← (show i = 40 by omega)]; exact hI, lf, by first | exact (bw_iT (decide_eq_true c_3)).symm | exact (bw_iF (decide_eq_false c_3)).symm, hA9, bw_pM_x hM9 c_2⟩, by rw [ht9]; exact hP9, hD9⟩, hS.F ht9⟩) hS.2.2 dM_lookAtRounds_228
            · skip
              refine lv_iconst (v := 0) hx hb dM_lookAtRounds_140 (by decide) ?_
              refine lv_istore_n (lv' := [(3, .int 0), (0, .ref y), (1, .long lf)]) hx hb dM_lookAtRounds_141 rfl hl (by decide) rfl (fun ls hl => ?_)
              refine lv_iconst (v := nI 0) hx hb dM_lookAtRounds_142 (by decide) ?_
              refine lv_istore (lv' := [(4, .int (nI 0)), (3, .int 0), (0, .ref y), (1, .long lf)]) hx hb dM_lookAtRounds_143 hl (by decide) rfl (fun ls hl => ?_)
              have loop_145 : ∀ (n_145 : Nat) (b : Nat) (lg : Int64) (mo2 : Int32), (b ≤ 40) → (40 < b + n_145) → (bw_pA re ms ov lg) → (bw_pI ms ov lf lg mo2 b) → ∀ (ls : Array Slot), lv_has ls 5 [(0, .ref y), (1, .long lg), (3, .int mo2), (4, .int (nI b))] → W p l e (headSpec wsM_lookAtRounds ({ frames := 2, cells := 0, slots := 0, locals := 53 } : Room)).room s m ([.ref y] : List Value).toArray below meth c H locs 0 0 (MQ below (va_Qv (S := (Int64 × (Nat → Int64) × Int32)) (fun u => bw_rI T re ms ov 40 u.1 u.2.1 ∧ ∃ lf, u.2.2 = bw_i (decide (lf = 0)) ∧ bw_pA re ms ov lf ∧ bw_pB ms ov lf) (fun (u : Int64 × (Nat → Int64) × Int32) t => va_P (dC, dI) vwCl [(y, .inr (3, [.int tw, .long T, .ref m1, .ref m2, .int kn, .ref s1, .long re, .long gd, .long en, .ref v1, .ref h1, .long u.1, .ref d1, .ref e1, .int u.2.2])), (m1, .inl (cI, 40, .inl mn)), (m2, .inl (cI, 160, .inl tg)), (s1, .inl (cL, 40, .inr (.inl ms))), (v1, .inl (cL, 40, .inr (.inl ov))), (h1, .inl (cL, 40, .inr (.inl be))), (d1, .inl (cL, 40, .inr (.inl u.2.1))), (e1, .inl (cL, 40, .inr (.inl ed)))] t.heap ∧ va_D A [(y, .inr (3, [.int tw, .long T, .ref m1, .ref m2, .int kn, .ref s1, .long re, .long gd, .long en, .ref v1, .ref h1, .long u.1, .ref d1, .ref e1, .int u.2.2])), (m1, .inl (cI, 40, .inl mn)), (m2, .inl (cI, 160, .inl tg)), (s1, .inl (cL, 40, .inr (.inl ms))), (v1, .inl (cL, 40, .inr (.inl ov))), (h1, .inl (cL, 40, .inr (.inl be))), (d1, .inl (cL, 40, .inr (.inl u.2.1))), (e1, .inl (cL, 40, .inr (.inl ed)))]) A) ([.ref y] : List Value).toArray s 0 0 A) (F0 m 145 ls []) := by
                intro n_145
                induction n_145 with
                | zero => intro b lg mo2 hib hfb hA2 hP2; exfalso; omega
                | succ n_145 ih_145 =>
                  intro b lg mo2 hib hfb hA2 hP2 ls hl
                  refine lv_iload hx hb dM_lookAtRounds_145 (lv_at hl 3 rfl) ?_
                  refine lv_bipush (v := nI 40) hx hb dM_lookAtRounds_147 (by decide) ?_
                  refine lv_icmp_ge (tgt := 210) hx hb dM_lookAtRounds_149 (by decide) (fun c_4 => ?_) (fun c_4 => ?_)
                  · skip
                    have c_4 : 40 ≤ b := (nI_leI (a := 40) (b := b) (by omega) (by omega)).mp c_4
                    refine lv_goto (tgt := 136) hx hb dM_lookAtRounds_210 (by decide) ?_
                    exact ih_136 lg mo2 (hA2) (bw_pM_s hA9 hre hM9 c_2 hP2 (by omega)) ls (lv_sub hl [0, 1, 2] rfl)
                  · skip
                    have c_4 : ¬ 40 ≤ b := fun z => c_4 ((nI_leI (a := 40) (b := b) (by omega) (by omega)).mpr z)
                    refine lv_lload_n hx hb dM_lookAtRounds_152 rfl (lv_at hl 1 rfl) ?_
                    refine lv_iload hx hb dM_lookAtRounds_153 (lv_at hl 3 rfl) ?_
                    refine vp_callSi (W.runS (As := [.long lg, .int (nI b)]) (rest := []) ⟨hx, hb, hml, hown, hT⟩ (m_is l lg b (by omega)) (cwS 2 hT g_M_36 rfl rfl rfl (by decide +kernel) ⟨Nat.le_of_ble_eq_true rfl, Nat.le_of_ble_eq_true rfl⟩) preEq rfl rfl hl.1 rfl (lv_room (Nat.le_of_ble_eq_true rfl)) dM_lookAtRounds_155 ⟨Nat.le_of_ble_eq_true rfl, Nat.le_of_ble_eq_true rfl⟩) (fun r_5 hr_5 => ?_)
                    rw [hr_5]; clear hr_5
                    refine lv_if_eq (tgt := 204) hx hb dM_lookAtRounds_158 (by decide) (fun c_6 => ?_) (fun c_6 => ?_)
                    · skip
                      have c_6 := bw_i0.mp c_6
                      refine lv_iinc (v := nI (b + 1)) (lv' := [(4, .int (nI (b + 1))), (0, .ref y), (1, .long lg), (3, .int mo2)]) hx hb dM_lookAtRounds_204 hl (k := 3) rfl (nI_1 _) (by decide) rfl (fun ls hl => ?_)
                      refine lv_goto (tgt := 145) hx hb dM_lookAtRounds_207 (by decide) ?_
                      exact ih_145 (b + 1) lg mo2 (by omega) (by omega) (hA2) (by first | exact bw_pI_1 hP2 c_6 | exact bw_pI_2 hP2 c_6) ls (lv_sub hl [1, 2, 3, 0] rfl)
                    · skip
                      have c_6 := bw_in0 c_6
                      refine lv_aload_n hx hb dM_lookAtRounds_161 rfl (lv_at hl 0 rfl) ?_
                      refine va_get (D := (dC, dI)) (ci := 3) (v := .ref s1) (C := RM) (T := TM) (N := 15) hx hb hT inM hown hK hP 0 rfl rfl 5 (by decide) (hT _ hw_343) (fun _ h9 => h9) rfl dM_lookAtRounds_162 ?_
                      refine lv_iload hx hb dM_lookAtRounds_165 (lv_at hl 3 rfl) ?_
                      refine bw_lald hx hb hK hP 3 1 (k := b) rfl rfl (by omega) (by decide) dM_lookAtRounds_167 ?_
                      refine lv_lload_n hx hb dM_lookAtRounds_168 rfl (lv_at hl 1 rfl) ?_
                      refine lv_land hx hb dM_lookAtRounds_169 ?_
                      refine lv_aload_n hx hb dM_lookAtRounds_170 rfl (lv_at hl 0 rfl) ?_
                      refine va_get (D := (dC, dI)) (ci := 3) (v := .ref v1) (C := RM) (T := TM) (N := 15) hx hb hT inM hown hK hP 0 rfl rfl 9 (by decide) (hT _ hw_347) (fun _ h9 => h9) rfl dM_lookAtRounds_171 ?_
                      refine lv_iload hx hb dM_lookAtRounds_174 (lv_at hl 3 rfl) ?_
                      refine bw_lald hx hb hK hP 4 1 (k := b) rfl rfl (by omega) (by decide) dM_lookAtRounds_176 ?_
                      refine lv_ldc2 (v := (-1)) hx hb hown (hT _ hw_409) dM_lookAtRounds_177 ?_
                      refine lv_lxor hx hb dM_lookAtRounds_180 ?_
                      refine lv_land hx hb dM_lookAtRounds_181 ?_
                      refine lv_lconst (v := 0) hx hb dM_lookAtRounds_182 (by decide) ?_
                      refine W.lcmp hx hb dM_lookAtRounds_183 ?_
                      refine lv_if_eq (tgt := 190) hx hb dM_lookAtRounds_184 (by decide) (fun c_7 => ?_) (fun c_7 => ?_)
                      · skip
                        have c_7 := bw_cmp0.mp c_7
                        refine lv_lload_n hx hb dM_lookAtRounds_190 rfl (lv_at hl 1 rfl) ?_
                        refine lv_iload hx hb dM_lookAtRounds_191 (lv_at hl 3 rfl) ?_
                        refine vp_callSl (W.runS (As := [.int (nI b)]) (rest := [.long lg]) ⟨hx, hb, hml, hown, hT⟩ (m_bit l b) (cwS 1 hT g_M_48 rfl rfl rfl (by decide +kernel) ⟨Nat.le_of_ble_eq_true rfl, Nat.le_of_ble_eq_true rfl⟩) preEq rfl rfl hl.1 rfl (lv_room (Nat.le_of_ble_eq_true rfl)) dM_lookAtRounds_193 ⟨Nat.le_of_ble_eq_true rfl, Nat.le_of_ble_eq_true rfl⟩) (fun r_8 hr_8 => ?_)
                        rw [hr_8]; clear hr_8
                        refine lv_ldc2 (v := (-1)) hx hb hown (hT _ hw_409) dM_lookAtRounds_196 ?_
                        refine lv_lxor hx hb dM_lookAtRounds_199 ?_
                        refine lv_land hx hb dM_lookAtRounds_200 ?_
                        refine lv_lstore_n (lv' := [(1, .long (lg &&& ((bw_b b) ^^^ (-1)))), (0, .ref y), (3, .int mo2), (4, .int (nI b))]) hx hb dM_lookAtRounds_201 rfl hl (by decide) rfl (fun ls hl => ?_)
                        refine lv_iconst (v := 1) hx hb dM_lookAtRounds_202 (by decide) ?_
                        refine lv_istore_n (lv' := [(3, .int 1), (1, .long (lg &&& ((bw_b b) ^^^ (-1)))), (0, .ref y), (4, .int (nI b))]) hx hb dM_lookAtRounds_203 rfl hl (by decide) rfl (fun ls hl => ?_)
                        refine lv_iinc (v := nI (b + 1)) (lv' := [(4, .int (nI (b + 1))), (3, .int 1), (1, .long (lg &&& ((bw_b b) ^^^ (-1)))), (0, .ref y)]) hx hb dM_lookAtRounds_204 hl (k := 3) rfl (nI_1 _) (by decide) rfl (fun ls hl => ?_)
                        refine lv_goto (tgt := 145) hx hb dM_lookAtRounds_207 (by decide) ?_
                        exact ih_145 (b + 1) (lg &&& ((bw_b b) ^^^ (-1))) 1 (by omega) (by omega) (bw_pA_s hA2 (by omega) c_7) (bw_pI_3 (by omega) hP2 c_6) ls (lv_sub hl [3, 2, 1, 0] rfl)
                      · skip
                        have c_7 := fun z => c_7 (bw_cmp0.mpr z)
                        refine lv_goto (tgt := 204) hx hb dM_lookAtRounds_187 (by decide) ?_
                        refine lv_iinc (v := nI (b + 1)) (lv' := [(4, .int (nI (b + 1))), (0, .ref y), (1, .long lg), (3, .int mo2)]) hx hb dM_lookAtRounds_204 hl (k := 3) rfl (nI_1 _) (by decide) rfl (fun ls hl => ?_)
                        refine lv_goto (tgt := 145) hx hb dM_lookAtRounds_207 (by decide) ?_
                        exact ih_145 (b + 1) lg mo2 (by omega) (by omega) (hA2) (by first | exact bw_pI_1 hP2 c_7 | exact bw_pI_2 hP2 c_7) ls (lv_sub hl [1, 2, 3, 0] rfl)
              exact loop_145 41 0 lf 0 (by omega) (by omega) (hA9) (bw_pI_0) ls (lv_sub hl [2, 3, 1, 0] rfl)
        exact loop_136 67 re 1 (bw_pA_0) (bw_pM_0) ls (lv_sub hl [2, 1, 0] rfl)
      · skip
        have c_1 : ¬ 40 ≤ i := fun z => c_1 ((nI_leI (a := 40) (b := i) (by omega) (by omega)).mpr z)
        refine lv_lconst (v := 0) hx hb dM_lookAtRounds_13 (by decide) ?_
        refine lv_lstore_n (lv' := [(2, .long 0), (0, .ref y), (1, .int (nI i))]) hx hb dM_lookAtRounds_14 rfl hl (by decide) rfl (fun ls hl => ?_)
        refine lv_iconst (v := nI 0) hx hb dM_lookAtRounds_15 (by decide) ?_
        refine lv_istore (lv' := [(4, .int (nI 0)), (2, .long 0), (0, .ref y), (1, .int (nI i))]) hx hb dM_lookAtRounds_16 hl (by decide) rfl (fun ls hl => ?_)
        have loop_18 : ∀ (n_18 : Nat) (j : Nat) (acc : Int64), (j ≤ 40) → (40 < j + n_18) → (acc = bw_F (fun b => bw_m re b && bw_m (ms b) i && bw_m (ov b) i) bw_b 0 j) → ∀ (ls : Array Slot), lv_has ls 5 [(0, .ref y), (1, .int (nI i)), (2, .long acc), (4, .int (nI j))] → W p l e (headSpec wsM_lookAtRounds ({ frames := 2, cells := 0, slots := 0, locals := 53 } : Room)).room s m ([.ref y] : List Value).toArray below meth c H locs 0 0 (MQ below (va_Qv (S := (Int64 × (Nat → Int64) × Int32)) (fun u => bw_rI T re ms ov 40 u.1 u.2.1 ∧ ∃ lf, u.2.2 = bw_i (decide (lf = 0)) ∧ bw_pA re ms ov lf ∧ bw_pB ms ov lf) (fun (u : Int64 × (Nat → Int64) × Int32) t => va_P (dC, dI) vwCl [(y, .inr (3, [.int tw, .long T, .ref m1, .ref m2, .int kn, .ref s1, .long re, .long gd, .long en, .ref v1, .ref h1, .long u.1, .ref d1, .ref e1, .int u.2.2])), (m1, .inl (cI, 40, .inl mn)), (m2, .inl (cI, 160, .inl tg)), (s1, .inl (cL, 40, .inr (.inl ms))), (v1, .inl (cL, 40, .inr (.inl ov))), (h1, .inl (cL, 40, .inr (.inl be))), (d1, .inl (cL, 40, .inr (.inl u.2.1))), (e1, .inl (cL, 40, .inr (.inl ed)))] t.heap ∧ va_D A [(y, .inr (3, [.int tw, .long T, .ref m1, .ref m2, .int kn, .ref s1, .long re, .long gd, .long en, .ref v1, .ref h1, .long u.1, .ref d1, .ref e1, .int u.2.2])), (m1, .inl (cI, 40, .inl mn)), (m2, .inl (cI, 160, .inl tg)), (s1, .inl (cL, 40, .inr (.inl ms))), (v1, .inl (cL, 40, .inr (.inl ov))), (h1, .inl (cL, 40, .inr (.inl be))), (d1, .inl (cL, 40, .inr (.inl u.2.1))), (e1, .inl (cL, 40, .inr (.inl ed)))]) A) ([.ref y] : List Value).toArray s 0 0 A) (F0 m 18 ls []) := by
          intro n_18
          induction n_18 with
          | zero => intro j acc hij hfj ea; exfalso; omega
          | succ n_18 ih_18 =>
            intro j acc hij hfj ea ls hl
            refine lv_iload hx hb dM_lookAtRounds_18 (lv_at hl 3 rfl) ?_
            refine lv_bipush (v := nI 40) hx hb dM_lookAtRounds_20 (by decide) ?_
            refine lv_icmp_ge (tgt := 79) hx hb dM_lookAtRounds_22 (by decide) (fun c_9 => ?_) (fun c_9 => ?_)
            · skip
              have c_9 : 40 ≤ j := (nI_leI (a := 40) (b := j) (by omega) (by omega)).mp c_9
              have e_bk : acc = bw_bk re ms ov i := by rw [ea, show j = 40 by omega]; rfl
              refine lv_lload_n hx hb dM_lookAtRounds_79 rfl (lv_at hl 2 rfl) ?_
              refine lv_lconst (v := 0) hx hb dM_lookAtRounds_80 (by decide) ?_
              refine W.lcmp hx hb dM_lookAtRounds_81 ?_
              refine lv_if_ne (tgt := 88) hx hb dM_lookAtRounds_82 (by decide) (fun c_10 => ?_) (fun c_10 => ?_)
              · skip
                have c_10 := fun z => c_10 (bw_cmp0.mpr z)
                refine lv_aload_n hx hb dM_lookAtRounds_88 rfl (lv_at hl 0 rfl) ?_
                refine lv_aload_n hx hb dM_lookAtRounds_89 rfl (lv_at hl 0 rfl) ?_
                refine va_get (D := (dC, dI)) (ci := 3) (v := .long he2) (C := RM) (T := TM) (N := 15) hx hb hT inM hown hK hP 0 rfl rfl 11 (by decide) (hT _ hw_349) (fun _ h9 => h9) rfl dM_lookAtRounds_90 ?_
                refine lv_iload_n hx hb dM_lookAtRounds_93 rfl (lv_at hl 1 rfl) ?_
                refine vp_callSl (W.runS (As := [.int (nI i)]) (rest := [.long he2, .ref y]) ⟨hx, hb, hml, hown, hT⟩ (m_bit l i) (cwS 1 hT g_M_48 rfl rfl rfl (by decide +kernel) ⟨Nat.le_of_ble_eq_true rfl, Nat.le_of_ble_eq_true rfl⟩) preEq rfl rfl hl.1 rfl (lv_room (Nat.le_of_ble_eq_true rfl)) dM_lookAtRounds_94 ⟨Nat.le_of_ble_eq_true rfl, Nat.le_of_ble_eq_true rfl⟩) (fun r_11 hr_11 => ?_)
                rw [hr_11]; clear hr_11
                refine lv_lor hx hb dM_lookAtRounds_97 ?_
                refine va_put (D := (dC, dI)) (ci := 3) (v := .long (he2 ||| (bw_b i))) (ty := .long) (C := RM) (T := TM) (N := 15) hx hb hT inM tyM tokM nmM hown hK hP hD hS 0 rfl rfl 11 (by decide) (hT _ hw_349) (fun _ h9 => h9) rfl (by decide +kernel) rfl rfl (Nat.le_of_ble_eq_true rfl) dM_lookAtRounds_98 (fun H locs hP hD hS => ?_)
                have hP : va_P (dC, dI) vwCl [(y, .inr (3, [.int tw, .long T, .ref m1, .ref m2, .int kn, .ref s1, .long re, .long gd, .long en, .ref v1, .ref h1, .long (he2 ||| (bw_b i)), .ref d1, .ref e1, .int pl])), (m1, .inl (cI, 40, .inl mn)), (m2, .inl (cI, 160, .inl tg)), (s1, .inl (cL, 40, .inr (.inl ms))), (v1, .inl (cL, 40, .inr (.inl ov))), (h1, .inl (cL, 40, .inr (.inl be))), (d1, .inl (cL, 40, .inr (.inl g))), (e1, .inl (cL, 40, .inr (.inl ed)))] H := hP
                have hD : va_D A [(y, .inr (3, [.int tw, .long T, .ref m1, .ref m2, .int kn, .ref s1, .long re, .long gd, .long en, .ref v1, .ref h1, .long (he2 ||| (bw_b i)), .ref d1, .ref e1, .int pl])), (m1, .inl (cI, 40, .inl mn)), (m2, .inl (cI, 160, .inl tg)), (s1, .inl (cL, 40, .inr (.inl ms))), (v1, .inl (cL, 40, .inr (.inl ov))), (h1, .inl (cL, 40, .inr (.inl be))), (d1, .inl (cL, 40, .inr (.inl g))), (e1, .inl (cL, 40, .inr (.inl ed)))] := hD
                refine lv_aload_n hx hb dM_lookAtRounds_101 rfl (lv_at hl 0 rfl) ?_
                refine va_get (D := (dC, dI)) (ci := 3) (v := .ref d1) (C := RM) (T := TM) (N := 15) hx hb hT inM hown hK hP 0 rfl rfl 12 (by decide) (hT _ hw_350) (fun _ h9 => h9) rfl dM_lookAtRounds_102 ?_
                refine lv_iload_n hx hb dM_lookAtRounds_105 rfl (lv_at hl 1 rfl) ?_
                refine lv_iload_n hx hb dM_lookAtRounds_106 rfl (lv_at hl 1 rfl) ?_
                refine vp_callSl (W.runS (As := [.int (nI i)]) (rest := [.int (nI i), .ref d1]) ⟨hx, hb, hml, hown, hT⟩ (m_bit l i) (cwS 1 hT g_M_48 rfl rfl rfl (by decide +kernel) ⟨Nat.le_of_ble_eq_true rfl, Nat.le_of_ble_eq_true rfl⟩) preEq rfl rfl hl.1 rfl (lv_room (Nat.le_of_ble_eq_true rfl)) dM_lookAtRounds_107 ⟨Nat.le_of_ble_eq_true rfl, Nat.le_of_ble_eq_true rfl⟩) (fun r_12 hr_12 => ?_)
                rw [hr_12]; clear hr_12
                refine lv_aload_n hx hb dM_lookAtRounds_110 rfl (lv_at hl 0 rfl) ?_
                refine lv_lload_n hx hb dM_lookAtRounds_111 rfl (lv_at hl 2 rfl) ?_
                refine lv_iload_n hx hb dM_lookAtRounds_112 rfl (lv_at hl 1 rfl) ?_
                have hPc := hP
                have hKc := hK
                refine vp_callSl (W.runV (As := [.long acc, .int (nI i)]) (rest := [.long (bw_b i), .int (nI i), .ref d1]) ⟨hx, hb, hml, hown, hT⟩ (m_leadToS l dC dI y m1 m2 s1 v1 h1 d1 e1 cI cL tw T mn tg kn ms re gd en ov be (he2 ||| (bw_b i)) g ed pl acc i (by omega)) (cwV 2 hT g_M_67 rfl rfl rfl (by decide +kernel) ⟨Nat.le_of_ble_eq_true rfl, Nat.le_of_ble_eq_true rfl⟩) (bw_pV hPc hKc hN (ci := 3) (q0 := 0) rfl rfl) rfl rfl hl.1 rfl (lv_room (Nat.le_of_ble_eq_true rfl)) dM_lookAtRounds_113 ⟨Nat.le_of_ble_eq_true rfl, Nat.le_of_ble_eq_true rfl⟩) (fun r_13 hr_13 => ?_)
                refine lv_aload_n hx hb dM_lookAtRounds_116 rfl (lv_at hl 0 rfl) ?_
                refine va_get (D := (dC, dI)) (ci := 3) (v := .long re) (C := RM) (T := TM) (N := 15) hx hb hT inM hown hK hP 0 rfl rfl 6 (by decide) (hT _ hw_344) (fun _ h9 => h9) rfl dM_lookAtRounds_117 ?_
                refine lv_land hx hb dM_lookAtRounds_120 ?_
                refine lv_lor hx hb dM_lookAtRounds_121 ?_
                refine bw_last hx hb hK hP hD hS 6 1 (k := i) rfl rfl (by omega) (by decide) dM_lookAtRounds_122 (fun H locs hP hD hS => ?_)
                have hP : va_P (dC, dI) vwCl [(y, .inr (3, [.int tw, .long T, .ref m1, .ref m2, .int kn, .ref s1, .long re, .long gd, .long en, .ref v1, .ref h1, .long (he2 ||| (bw_b i)), .ref d1, .ref e1, .int pl])), (m1, .inl (cI, 40, .inl mn)), (m2, .inl (cI, 160, .inl tg)), (s1, .inl (cL, 40, .inr (.inl ms))), (v1, .inl (cL, 40, .inr (.inl ov))), (h1, .inl (cL, 40, .inr (.inl be))), (d1, .inl (cL, 40, .inr (.inl (vp_updL g i ((bw_b i) ||| (r_13 &&& re)))))), (e1, .inl (cL, 40, .inr (.inl ed)))] H := hP
                have hD : va_D A [(y, .inr (3, [.int tw, .long T, .ref m1, .ref m2, .int kn, .ref s1, .long re, .long gd, .long en, .ref v1, .ref h1, .long (he2 ||| (bw_b i)), .ref d1, .ref e1, .int pl])), (m1, .inl (cI, 40, .inl mn)), (m2, .inl (cI, 160, .inl tg)), (s1, .inl (cL, 40, .inr (.inl ms))), (v1, .inl (cL, 40, .inr (.inl ov))), (h1, .inl (cL, 40, .inr (.inl be))), (d1, .inl (cL, 40, .inr (.inl (vp_updL g i ((bw_b i) ||| (r_13 &&& re)))))), (e1, .inl (cL, 40, .inr (.inl ed)))] := hD
                refine lv_iinc (v := nI (i + 1)) (lv' := [(1, .int (nI (i + 1))), (0, .ref y), (2, .long acc), (4, .int (nI j))]) hx hb dM_lookAtRounds_123 hl (k := 1) rfl (nI_1 _) (by decide) rfl (fun ls hl => ?_)
                refine lv_goto (tgt := 7) hx hb dM_lookAtRounds_126 (by decide) ?_
                exact ih_7 (i + 1) (he2 ||| (bw_b i)) (vp_updL g i ((bw_b i) ||| (r_13 &&& re))) (by omega) (by omega) (bw_rI_s hI (by omega) e_bk c_10 hr_13) H locs hP hD hS ls (lv_sub hl [1, 0] rfl)
              · skip
                have c_10 := bw_cmp0.mp c_10
                refine lv_goto (tgt := 123) hx hb dM_lookAtRounds_85 (by decide) ?_
                refine lv_iinc (v := nI (i + 1)) (lv' := [(1, .int (nI (i + 1))), (0, .ref y), (2, .long acc), (4, .int (nI j))]) hx hb dM_lookAtRounds_123 hl (k := 1) rfl (nI_1 _) (by decide) rfl (fun ls hl => ?_)
                refine lv_goto (tgt := 7) hx hb dM_lookAtRounds_126 (by decide) ?_
                exact ih_7 (i + 1) he2 g (by omega) (by omega) (bw_rI_z hI (by omega) e_bk c_10) H locs hP hD hS ls (lv_sub hl [1, 0] rfl)
            · skip
              have c_9 : ¬ 40 ≤ j := fun z => c_9 ((nI_leI (a := 40) (b := j) (by omega) (by omega)).mpr z)
              refine lv_aload_n hx hb dM_lookAtRounds_25 rfl (lv_at hl 0 rfl) ?_
              refine va_get (D := (dC, dI)) (ci := 3) (v := .long re) (C := RM) (T := TM) (N := 15) hx hb hT inM hown hK hP 0 rfl rfl 6 (by decide) (hT _ hw_344) (fun _ h9 => h9) rfl dM_lookAtRounds_26 ?_
              refine lv_iload hx hb dM_lookAtRounds_29 (lv_at hl 3 rfl) ?_
              refine vp_callSi (W.runS (As := [.long re, .int (nI j)]) (rest := []) ⟨hx, hb, hml, hown, hT⟩ (m_is l re j (by omega)) (cwS 2 hT g_M_36 rfl rfl rfl (by decide +kernel) ⟨Nat.le_of_ble_eq_true rfl, Nat.le_of_ble_eq_true rfl⟩) preEq rfl rfl hl.1 rfl (lv_room (Nat.le_of_ble_eq_true rfl)) dM_lookAtRounds_31 ⟨Nat.le_of_ble_eq_true rfl, Nat.le_of_ble_eq_true rfl⟩) (fun r_14 hr_14 => ?_)
              rw [hr_14]; clear hr_14
              refine lv_if_eq (tgt := 73) hx hb dM_lookAtRounds_34 (by decide) (fun c_15 => ?_) (fun c_15 => ?_)
              · skip
                have c_15 := bw_i0.mp c_15
                refine lv_iinc (v := nI (j + 1)) (lv' := [(4, .int (nI (j + 1))), (0, .ref y), (1, .int (nI i)), (2, .long acc)]) hx hb dM_lookAtRounds_73 hl (k := 3) rfl (nI_1 _) (by decide) rfl (fun ls hl => ?_)
                refine lv_goto (tgt := 18) hx hb dM_lookAtRounds_76 (by decide) ?_
                exact ih_18 (j + 1) acc (by omega) (by omega) (by first | (rw [bw_F_t (c := fun b => bw_m re b && bw_m (ms b) i && bw_m (ov b) i) (n := j) (bw_a3T c_1 c_9 c_15), ← ea]; done) | (rw [bw_F_f (c := fun b => bw_m re b && bw_m (ms b) i && bw_m (ov b) i) (n := j) (bw_a3F1 c_15), ← ea]; done) | (rw [bw_F_f (c := fun b => bw_m re b && bw_m (ms b) i && bw_m (ov b) i) (n := j) (bw_a3F2 c_15), ← ea]; done) | (rw [bw_F_f (c := fun b => bw_m re b && bw_m (ms b) i && bw_m (ov b) i) (n := j) (bw_a3F3 c_15), ← ea]; done) ) ls (lv_sub hl [1, 2, 3, 0] rfl)
              · skip
                have c_15 := bw_in0 c_15
                refine lv_aload_n hx hb dM_lookAtRounds_37 rfl (lv_at hl 0 rfl) ?_
                refine va_get (D := (dC, dI)) (ci := 3) (v := .ref s1) (C := RM) (T := TM) (N := 15) hx hb hT inM hown hK hP 0 rfl rfl 5 (by decide) (hT _ hw_343) (fun _ h9 => h9) rfl dM_lookAtRounds_38 ?_
                refine lv_iload hx hb dM_lookAtRounds_41 (lv_at hl 3 rfl) ?_
                refine bw_lald hx hb hK hP 3 1 (k := j) rfl rfl (by omega) (by decide) dM_lookAtRounds_43 ?_
                refine lv_iload_n hx hb dM_lookAtRounds_44 rfl (lv_at hl 1 rfl) ?_
                refine vp_callSi (W.runS (As := [.long (ms j), .int (nI i)]) (rest := []) ⟨hx, hb, hml, hown, hT⟩ (m_is l (ms j) i (by omega)) (cwS 2 hT g_M_36 rfl rfl rfl (by decide +kernel) ⟨Nat.le_of_ble_eq_true rfl, Nat.le_of_ble_eq_true rfl⟩) preEq rfl rfl hl.1 rfl (lv_room (Nat.le_of_ble_eq_true rfl)) dM_lookAtRounds_45 ⟨Nat.le_of_ble_eq_true rfl, Nat.le_of_ble_eq_true rfl⟩) (fun r_16 hr_16 => ?_)
                rw [hr_16]; clear hr_16
                refine lv_if_eq (tgt := 73) hx hb dM_lookAtRounds_48 (by decide) (fun c_17 => ?_) (fun c_17 => ?_)
                · skip
                  have c_17 := bw_i0.mp c_17
                  refine lv_iinc (v := nI (j + 1)) (lv' := [(4, .int (nI (j + 1))), (0, .ref y), (1, .int (nI i)), (2, .long acc)]) hx hb dM_lookAtRounds_73 hl (k := 3) rfl (nI_1 _) (by decide) rfl (fun ls hl => ?_)
                  refine lv_goto (tgt := 18) hx hb dM_lookAtRounds_76 (by decide) ?_
                  exact ih_18 (j + 1) acc (by omega) (by omega) (by first | (rw [bw_F_t (c := fun b => bw_m re b && bw_m (ms b) i && bw_m (ov b) i) (n := j) (bw_a3T c_9 c_15 c_17), ← ea]; done) | (rw [bw_F_f (c := fun b => bw_m re b && bw_m (ms b) i && bw_m (ov b) i) (n := j) (bw_a3F1 c_17), ← ea]; done) | (rw [bw_F_f (c := fun b => bw_m re b && bw_m (ms b) i && bw_m (ov b) i) (n := j) (bw_a3F2 c_17), ← ea]; done) | (rw [bw_F_f (c := fun b => bw_m re b && bw_m (ms b) i && bw_m (ov b) i) (n := j) (bw_a3F3 c_17), ← ea]; done) ) ls (lv_sub hl [1, 2, 3, 0] rfl)
                · skip
                  have c_17 := bw_in0 c_17
                  refine lv_aload_n hx hb dM_lookAtRounds_51 rfl (lv_at hl 0 rfl) ?_
                  refine va_get (D := (dC, dI)) (ci := 3) (v := .ref v1) (C := RM) (T := TM) (N := 15) hx hb hT inM hown hK hP 0 rfl rfl 9 (by decide) (hT _ hw_347) (fun _ h9 => h9) rfl dM_lookAtRounds_52 ?_
                  refine lv_iload hx hb dM_lookAtRounds_55 (lv_at hl 3 rfl) ?_
                  refine bw_lald hx hb hK hP 4 1 (k := j) rfl rfl (by omega) (by decide) dM_lookAtRounds_57 ?_
                  refine lv_iload_n hx hb dM_lookAtRounds_58 rfl (lv_at hl 1 rfl) ?_
                  refine vp_callSi (W.runS (As := [.long (ov j), .int (nI i)]) (rest := []) ⟨hx, hb, hml, hown, hT⟩ (m_is l (ov j) i (by omega)) (cwS 2 hT g_M_36 rfl rfl rfl (by decide +kernel) ⟨Nat.le_of_ble_eq_true rfl, Nat.le_of_ble_eq_true rfl⟩) preEq rfl rfl hl.1 rfl (lv_room (Nat.le_of_ble_eq_true rfl)) dM_lookAtRounds_59 ⟨Nat.le_of_ble_eq_true rfl, Nat.le_of_ble_eq_true rfl⟩) (fun r_18 hr_18 => ?_)
                  rw [hr_18]; clear hr_18
                  refine lv_if_eq (tgt := 73) hx hb dM_lookAtRounds_62 (by decide) (fun c_19 => ?_) (fun c_19 => ?_)
                  · skip
                    have c_19 := bw_i0.mp c_19
                    refine lv_iinc (v := nI (j + 1)) (lv' := [(4, .int (nI (j + 1))), (0, .ref y), (1, .int (nI i)), (2, .long acc)]) hx hb dM_lookAtRounds_73 hl (k := 3) rfl (nI_1 _) (by decide) rfl (fun ls hl => ?_)
                    refine lv_goto (tgt := 18) hx hb dM_lookAtRounds_76 (by decide) ?_
                    exact ih_18 (j + 1) acc (by omega) (by omega) (by first | (rw [bw_F_t (c := fun b => bw_m re b && bw_m (ms b) i && bw_m (ov b) i) (n := j) (bw_a3T c_15 c_17 c_19), ← ea]; done) | (rw [bw_F_f (c := fun b => bw_m re b && bw_m (ms b) i && bw_m (ov b) i) (n := j) (bw_a3F1 c_19), ← ea]; done) | (rw [bw_F_f (c := fun b => bw_m re b && bw_m (ms b) i && bw_m (ov b) i) (n := j) (bw_a3F2 c_19), ← ea]; done) | (rw [bw_F_f (c := fun b => bw_m re b && bw_m (ms b) i && bw_m (ov b) i) (n := j) (bw_a3F3 c_19), ← ea]; done) ) ls (lv_sub hl [1, 2, 3, 0] rfl)
                  · skip
                    have c_19 := bw_in0 c_19
                    refine lv_lload_n hx hb dM_lookAtRounds_65 rfl (lv_at hl 2 rfl) ?_
                    refine lv_iload hx hb dM_lookAtRounds_66 (lv_at hl 3 rfl) ?_
                    refine vp_callSl (W.runS (As := [.int (nI j)]) (rest := [.long acc]) ⟨hx, hb, hml, hown, hT⟩ (m_bit l j) (cwS 1 hT g_M_48 rfl rfl rfl (by decide +kernel) ⟨Nat.le_of_ble_eq_true rfl, Nat.le_of_ble_eq_true rfl⟩) preEq rfl rfl hl.1 rfl (lv_room (Nat.le_of_ble_eq_true rfl)) dM_lookAtRounds_68 ⟨Nat.le_of_ble_eq_true rfl, Nat.le_of_ble_eq_true rfl⟩) (fun r_20 hr_20 => ?_)
                    rw [hr_20]; clear hr_20
                    refine lv_lor hx hb dM_lookAtRounds_71 ?_
                    refine lv_lstore_n (lv' := [(2, .long (acc ||| (bw_b j))), (0, .ref y), (1, .int (nI i)), (4, .int (nI j))]) hx hb dM_lookAtRounds_72 rfl hl (by decide) rfl (fun ls hl => ?_)
                    refine lv_iinc (v := nI (j + 1)) (lv' := [(4, .int (nI (j + 1))), (2, .long (acc ||| (bw_b j))), (0, .ref y), (1, .int (nI i))]) hx hb dM_lookAtRounds_73 hl (k := 3) rfl (nI_1 _) (by decide) rfl (fun ls hl => ?_)
                    refine lv_goto (tgt := 18) hx hb dM_lookAtRounds_76 (by decide) ?_
                    exact ih_18 (j + 1) (acc ||| (bw_b j)) (by omega) (by omega) (by first | (rw [bw_F_t (c := fun b => bw_m re b && bw_m (ms b) i && bw_m (ov b) i) (n := j) (bw_a3T c_15 c_17 c_19), ← ea]; done) | (rw [bw_F_f (c := fun b => bw_m re b && bw_m (ms b) i && bw_m (ov b) i) (n := j) (bw_a3F1 c_19), ← ea]; done) | (rw [bw_F_f (c := fun b => bw_m re b && bw_m (ms b) i && bw_m (ov b) i) (n := j) (bw_a3F2 c_19), ← ea]; done) | (rw [bw_F_f (c := fun b => bw_m re b && bw_m (ms b) i && bw_m (ov b) i) (n := j) (bw_a3F3 c_19), ← ea]; done) ) ls (lv_sub hl [2, 3, 1, 0] rfl)
        exact loop_18 41 0 0 (by omega) (by omega) (rfl) ls (lv_sub hl [2, 3, 1, 0] rfl)
  exact loop_7 41 0 0 rd (by omega) (by omega) (bw_rI_0 hz) H locs hP hD hS ls (lv_sub hl [1, 0] rfl)
