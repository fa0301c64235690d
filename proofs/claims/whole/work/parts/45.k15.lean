set_option maxHeartbeats 4000000 in
set_option maxRecDepth 100000 in
theorem c_innerS (l : Launch) (dC : Nat → ClassId) (dI : Nat → Nat → Nat) (x t1 o o1 o2 q q1 q2 r r1 : Nat) (cI cL : ClassId) (T : Int64) (tc : Nat → Int32) (so go : Nat → Int64) (co : Int64) (sb gb : Nat → Int64) (cb : Int64) (bl : Nat → Int64) (f1 f2 : Int32) (k : Nat) (hk : k < 40) (hbl : ∀ h, h < 40 → ∀ i, bw_m ((bw_q f1 bl (bw_nl so sb T go bl)) h) i = true → i < 40) (j : Nat) (hj : bw_sm (bw_q f1 bl (bw_nl so sb T go bl)) k 40 = some j) (sz : Nat) : Met l yB_inner wsB_inner ({ frames := 6, cells := 0, slots := 0, locals := 141 } : Room) (bw_Wr (dC, dI) [(cI, .int), (cL, .long)] [(x, .inr (2, [.long T, .ref t1, .ref o, .ref q, .ref r, .int f1, .int f2])), (t1, .inl (cI, 40, .inl tc)), (o, .inr (1, [.ref o1, .ref o2, .long co])), (q, .inr (1, [.ref q1, .ref q2, .long cb])), (r, .inr (0, [.ref r1])), (o1, .inl (cL, 40, .inr (.inl so))), (o2, .inl (cL, 40, .inr (.inl go))), (q1, .inl (cL, 40, .inr (.inl sb))), (q2, .inl (cL, 40, .inr (.inl gb))), (r1, .inl (cL, 40, .inr (.inl bl)))] sz [.ref x, .int (nI k)]) (va_Qi (S := Unit) (fun r _ => r = nI j) (fun (_ : Unit) t => va_P (dC, dI) vwCl [(x, .inr (2, [.long T, .ref t1, .ref o, .ref q, .ref r, .int 0, .int f2])), (t1, .inl (cI, 40, .inl tc)), (o, .inr (1, [.ref o1, .ref o2, .long (bw_q f1 co (bw_nc so T))])), (q, .inr (1, [.ref q1, .ref q2, .long cb])), (r, .inr (0, [.ref r1])), (o1, .inl (cL, 40, .inr (.inl so))), (o2, .inl (cL, 40, .inr (.inl (bw_q f1 go (bw_ng so T go))))), (q1, .inl (cL, 40, .inr (.inl sb))), (q2, .inl (cL, 40, .inr (.inl gb))), (r1, .inl (cL, 40, .inr (.inl (bw_q f1 bl (bw_nl so sb T go bl)))))] t.heap ∧ va_D (va_A [(x, .inr (2, [.long T, .ref t1, .ref o, .ref q, .ref r, .int f1, .int f2])), (t1, .inl (cI, 40, .inl tc)), (o, .inr (1, [.ref o1, .ref o2, .long co])), (q, .inr (1, [.ref q1, .ref q2, .long cb])), (r, .inr (0, [.ref r1])), (o1, .inl (cL, 40, .inr (.inl so))), (o2, .inl (cL, 40, .inr (.inl go))), (q1, .inl (cL, 40, .inr (.inl sb))), (q2, .inl (cL, 40, .inr (.inl gb))), (r1, .inl (cL, 40, .inr (.inl bl)))] sz) [(x, .inr (2, [.long T, .ref t1, .ref o, .ref q, .ref r, .int 0, .int f2])), (t1, .inl (cI, 40, .inl tc)), (o, .inr (1, [.ref o1, .ref o2, .long (bw_q f1 co (bw_nc so T))])), (q, .inr (1, [.ref q1, .ref q2, .long cb])), (r, .inr (0, [.ref r1])), (o1, .inl (cL, 40, .inr (.inl so))), (o2, .inl (cL, 40, .inr (.inl (bw_q f1 go (bw_ng so T go))))), (q1, .inl (cL, 40, .inr (.inl sb))), (q2, .inl (cL, 40, .inr (.inl gb))), (r1, .inl (cL, 40, .inr (.inl (bw_q f1 bl (bw_nl so sb T go bl)))))]) (va_A [(x, .inr (2, [.long T, .ref t1, .ref o, .ref q, .ref r, .int f1, .int f2])), (t1, .inl (cI, 40, .inl tc)), (o, .inr (1, [.ref o1, .ref o2, .long co])), (q, .inr (1, [.ref q1, .ref q2, .long cb])), (r, .inr (0, [.ref r1])), (o1, .inl (cL, 40, .inr (.inl so))), (o2, .inl (cL, 40, .inr (.inl go))), (q1, .inl (cL, 40, .inr (.inl sb))), (q2, .inl (cL, 40, .inr (.inl gb))), (r1, .inl (cL, 40, .inr (.inl bl)))] sz)) 0 0 (va_A [(x, .inr (2, [.long T, .ref t1, .ref o, .ref q, .ref r, .int f1, .int f2])), (t1, .inl (cI, 40, .inl tc)), (o, .inr (1, [.ref o1, .ref o2, .long co])), (q, .inr (1, [.ref q1, .ref q2, .long cb])), (r, .inr (0, [.ref r1])), (o1, .inl (cL, 40, .inr (.inl so))), (o2, .inl (cL, 40, .inr (.inl go))), (q1, .inl (cL, 40, .inr (.inl sb))), (q2, .inl (cL, 40, .inr (.inl gb))), (r1, .inl (cL, 40, .inr (.inl bl)))] sz) := by
  refine Met.ofW (cc := cB_inner) (maxL := 3) (ret := (some .int)) (by decide) rfl ?_
  intro p e s m args below meth c s₁ B hml hv
  obtain ⟨rfl, hsz, hP, hK, hN, hD0⟩ := hv
  have hx := B.exec
  have hb := B.bytes
  have hr := B.returns
  have hts := atoms_spec (ws := wsB_inner) B.pre
  have hT : ∀ w ∈ bwB, w.before _ s = true := fun w h => hts w (List.mem_cons_of_mem _ h)
  have hown : s.vm.findClass RB = some m.cls := findClass_of_methodNamed B.named
  have hlocks := B.notSynchronized
  subst hsz
  have hD := hD0.self (sz := s.heap.size)
  generalize hAe : va_A [(x, .inr (2, [.long T, .ref t1, .ref o, .ref q, .ref r, .int f1, .int f2])), (t1, .inl (cI, 40, .inl tc)), (o, .inr (1, [.ref o1, .ref o2, .long co])), (q, .inr (1, [.ref q1, .ref q2, .long cb])), (r, .inr (0, [.ref r1])), (o1, .inl (cL, 40, .inr (.inl so))), (o2, .inl (cL, 40, .inr (.inl go))), (q1, .inl (cL, 40, .inr (.inl sb))), (q2, .inl (cL, 40, .inr (.inl gb))), (r1, .inl (cL, 40, .inr (.inl bl)))] s.heap.size = A at hD ⊢
  have hA : ∀ q : Nat, s.heap.size ≤ q → A q := fun q h => by rw [← hAe]; exact Or.inr h
  have hS : va_S A s.heap s.heap [] := va_S.rf
  have hP : va_P (dC, dI) vwCl [(x, .inr (2, [.long T, .ref t1, .ref o, .ref q, .ref r, .int f1, .int f2])), (t1, .inl (cI, 40, .inl tc)), (o, .inr (1, [.ref o1, .ref o2, .long co])), (q, .inr (1, [.ref q1, .ref q2, .long cb])), (r, .inr (0, [.ref r1])), (o1, .inl (cL, 40, .inr (.inl so))), (o2, .inl (cL, 40, .inr (.inl go))), (q1, .inl (cL, 40, .inr (.inl sb))), (q2, .inl (cL, 40, .inr (.inl gb))), (r1, .inl (cL, 40, .inr (.inl bl)))] s.heap := hP
  have hl := lv_entry ([.ref x, .int (nI k)]) (n := 3) (Nat.le_of_ble_eq_true rfl)
  rw [lg_entry_eq]
  generalize (lg_sl ([.ref x, .int (nI k)]) ++ List.replicate (3 - (lg_sl ([.ref x, .int (nI k)])).length) Slot.unset).toArray = ls at hl ⊢
  have hl : lv_has ls 3 [(0, .ref x), (1, .int (nI k))] := hl
  refine lv_iload_n hx hb dB_inner_0 rfl (lv_at hl 1 rfl) ?_
  refine vp_callSi (W.runS (As := [.int (nI k)]) (rest := []) ⟨hx, hb, hml, hown, hT⟩ (c_isB1 l k (by omega)) (cwS 1 hT g_B_41 rfl rfl rfl (by decide +kernel) ⟨Nat.le_of_ble_eq_true rfl, Nat.le_of_ble_eq_true rfl⟩) preEq rfl rfl hl.1 rfl (lv_room (Nat.le_of_ble_eq_true rfl)) dB_inner_1 ⟨Nat.le_of_ble_eq_true rfl, Nat.le_of_ble_eq_true rfl⟩) (fun r_1 hr_1 => ?_)
  rw [hr_1]; clear hr_1
  refine lv_if_eq (tgt := 18) hx hb dB_inner_4 (by decide) (fun c_2 => ?_) (fun c_2 => ?_)
  · skip
    exact absurd c_2 (by decide)
  · skip
    refine lv_aload_n hx hb dB_inner_7 rfl (lv_at hl 0 rfl) ?_
    have hPc := hP.sub (ws' := [(x, .inr (2, [.long T, .ref t1, .ref o, .ref q, .ref r, .int f1, .int f2])), (t1, .inl (cI, 40, .inl tc)), (o, .inr (1, [.ref o1, .ref o2, .long co])), (q, .inr (1, [.ref q1, .ref q2, .long cb])), (r, .inr (0, [.ref r1])), (o1, .inl (cL, 40, .inr (.inl so))), (o2, .inl (cL, 40, .inr (.inl go))), (q1, .inl (cL, 40, .inr (.inl sb))), (q2, .inl (cL, 40, .inr (.inl gb))), (r1, .inl (cL, 40, .inr (.inl bl)))]) [0, 1, 2, 3, 4, 5, 6, 7, 8, 9] rfl
    have hDc := hD.sub (ws' := [(x, .inr (2, [.long T, .ref t1, .ref o, .ref q, .ref r, .int f1, .int f2])), (t1, .inl (cI, 40, .inl tc)), (o, .inr (1, [.ref o1, .ref o2, .long co])), (q, .inr (1, [.ref q1, .ref q2, .long cb])), (r, .inr (0, [.ref r1])), (o1, .inl (cL, 40, .inr (.inl so))), (o2, .inl (cL, 40, .inr (.inl go))), (q1, .inl (cL, 40, .inr (.inl sb))), (q2, .inl (cL, 40, .inr (.inl gb))), (r1, .inl (cL, 40, .inr (.inl bl)))]) [0, 1, 2, 3, 4, 5, 6, 7, 8, 9] (by decide) rfl
    have hKc := hK.sub (tys' := [(cI, .int), (cL, .long)]) [0, 1] rfl
    have hFc := va_free (wc := [(x, .inr (2, [.long T, .ref t1, .ref o, .ref q, .ref r, .int f1, .int f2])), (t1, .inl (cI, 40, .inl tc)), (o, .inr (1, [.ref o1, .ref o2, .long co])), (q, .inr (1, [.ref q1, .ref q2, .long cb])), (r, .inr (0, [.ref r1])), (o1, .inl (cL, 40, .inr (.inl so))), (o2, .inl (cL, 40, .inr (.inl go))), (q1, .inl (cL, 40, .inr (.inl sb))), (q2, .inl (cL, 40, .inr (.inl gb))), (r1, .inl (cL, 40, .inr (.inl bl)))]) hD hS hA [0, 1, 2, 3, 4, 5, 6, 7, 8, 9] rfl
    refine va_callr (va_runV (As := []) (rest := []) ⟨hx, hb, hml, hown, hT⟩ (c_freshRounds l dC dI x t1 o o1 o2 q q1 q2 r r1 cI cL T tc so go co sb gb cb bl f1 f2 s.heap.size) (cwV 0 hT g_B_89 rfl rfl rfl (by decide +kernel) ⟨Nat.le_of_ble_eq_true rfl, Nat.le_of_ble_eq_true rfl⟩) (bw_qV hPc hKc hN hDc (ci := 2) (q0 := 0) rfl rfl) rfl rfl hl.1 rfl (lv_room (Nat.le_of_ble_eq_true rfl)) dB_inner_8 ⟨Nat.le_of_ble_eq_true rfl, Nat.le_of_ble_eq_true rfl⟩) hS (fun q _ h => hFc q h) hFc (fun u_3 ra_3 t_3 H1 locs ht hvm hw_3 hB hz1 hk1 hS => ?_)
    obtain ⟨era, hP1, hD1⟩ := hB
    rw [ht] at hP1
    obtain ⟨hP, hD⟩ := va_join (wr := []) (w1 := [(x, .inr (2, [.long T, .ref t1, .ref o, .ref q, .ref r, .int 0, .int f2])), (t1, .inl (cI, 40, .inl tc)), (o, .inr (1, [.ref o1, .ref o2, .long (bw_q f1 co (bw_nc so T))])), (q, .inr (1, [.ref q1, .ref q2, .long cb])), (r, .inr (0, [.ref r1])), (o1, .inl (cL, 40, .inr (.inl so))), (o2, .inl (cL, 40, .inr (.inl (bw_q f1 go (bw_ng so T go))))), (q1, .inl (cL, 40, .inr (.inl sb))), (q2, .inl (cL, 40, .inr (.inl gb))), (r1, .inl (cL, 40, .inr (.inl (bw_q f1 bl (bw_nl so sb T go bl)))))]) hP hD [0, 1, 2, 3, 4, 5, 6, 7, 8, 9] [] rfl rfl (by decide) (by decide) hk1 hFc hP1 hD1
    generalize H1 = H at hP hS ⊢
    have hP : va_P (dC, dI) vwCl [(x, .inr (2, [.long T, .ref t1, .ref o, .ref q, .ref r, .int 0, .int f2])), (t1, .inl (cI, 40, .inl tc)), (o, .inr (1, [.ref o1, .ref o2, .long (bw_q f1 co (bw_nc so T))])), (q, .inr (1, [.ref q1, .ref q2, .long cb])), (r, .inr (0, [.ref r1])), (o1, .inl (cL, 40, .inr (.inl so))), (o2, .inl (cL, 40, .inr (.inl (bw_q f1 go (bw_ng so T go))))), (q1, .inl (cL, 40, .inr (.inl sb))), (q2, .inl (cL, 40, .inr (.inl gb))), (r1, .inl (cL, 40, .inr (.inl (bw_q f1 bl (bw_nl so sb T go bl)))))] H := hP
    have hD : va_D A [(x, .inr (2, [.long T, .ref t1, .ref o, .ref q, .ref r, .int 0, .int f2])), (t1, .inl (cI, 40, .inl tc)), (o, .inr (1, [.ref o1, .ref o2, .long (bw_q f1 co (bw_nc so T))])), (q, .inr (1, [.ref q1, .ref q2, .long cb])), (r, .inr (0, [.ref r1])), (o1, .inl (cL, 40, .inr (.inl so))), (o2, .inl (cL, 40, .inr (.inl (bw_q f1 go (bw_ng so T go))))), (q1, .inl (cL, 40, .inr (.inl sb))), (q2, .inl (cL, 40, .inr (.inl gb))), (r1, .inl (cL, 40, .inr (.inl (bw_q f1 bl (bw_nl so sb T go bl)))))] := hD
    rw [era]; clear era
    refine lv_iload_n hx hb dB_inner_11 rfl (lv_at hl 1 rfl) ?_
    have hPc := hP.sub (ws' := [(r, .inr (0, [.ref r1])), (r1, .inl (cL, 40, .inr (.inl (bw_q f1 bl (bw_nl so sb T go bl)))))]) [4, 9] rfl
    have hKc := hK.sub (tys' := [(cL, .long)]) [1] rfl
    refine vp_callSi (W.runV (As := [.int (nI k)]) (rest := []) ⟨hx, hb, hml, hown, hT⟩ (c_smallestAround l dC dI r r1 cL (bw_q f1 bl (bw_nl so sb T go bl)) hbl k (by omega)) (cwV 1 hT g_B_123 rfl rfl rfl (by decide +kernel) ⟨Nat.le_of_ble_eq_true rfl, Nat.le_of_ble_eq_true rfl⟩) (bw_pV hPc hKc hN (ci := 0) (q0 := 0) rfl rfl) rfl rfl hl.1 rfl (lv_room (Nat.le_of_ble_eq_true rfl)) dB_inner_12 ⟨Nat.le_of_ble_eq_true rfl, Nat.le_of_ble_eq_true rfl⟩) (fun r_4 hr_4 => ?_)
    rw [hr_4]; clear hr_4
    rw [hj, show bw_h (some j) = nI j from rfl]
    refine lv_goto (tgt := 19) hx hb dB_inner_15 (by decide) ?_
    refine lv_istore_n (lv' := [(2, .int (nI j)), (0, .ref x), (1, .int (nI k))]) hx hb dB_inner_19 rfl hl (by decide) rfl (fun ls hl => ?_)
    refine lv_iload_n hx hb dB_inner_20 rfl (lv_at hl 0 rfl) ?_
    refine lv_iconst (v := -1) hx hb dB_inner_21 (by decide) ?_
    refine lv_icmp_ne (tgt := 35) hx hb dB_inner_22 (by decide) (fun c_5 => ?_) (fun c_5 => ?_)
    · skip
      refine lv_iload_n hx hb dB_inner_35 rfl (lv_at hl 0 rfl) ?_
      have hP9 := hP.sub (ws' := [(x, .inr (2, [.long T, .ref t1, .ref o, .ref q, .ref r, .int 0, .int f2])), (t1, .inl (cI, 40, .inl tc)), (o, .inr (1, [.ref o1, .ref o2, .long (bw_q f1 co (bw_nc so T))])), (q, .inr (1, [.ref q1, .ref q2, .long cb])), (r, .inr (0, [.ref r1])), (o1, .inl (cL, 40, .inr (.inl so))), (o2, .inl (cL, 40, .inr (.inl (bw_q f1 go (bw_ng so T go))))), (q1, .inl (cL, 40, .inr (.inl sb))), (q2, .inl (cL, 40, .inr (.inl gb))), (r1, .inl (cL, 40, .inr (.inl (bw_q f1 bl (bw_nl so sb T go bl)))))]) [0, 1, 2, 3, 4, 5, 6, 7, 8, 9] rfl
      have hD9 := hD.sub (ws' := [(x, .inr (2, [.long T, .ref t1, .ref o, .ref q, .ref r, .int 0, .int f2])), (t1, .inl (cI, 40, .inl tc)), (o, .inr (1, [.ref o1, .ref o2, .long (bw_q f1 co (bw_nc so T))])), (q, .inr (1, [.ref q1, .ref q2, .long cb])), (r, .inr (0, [.ref r1])), (o1, .inl (cL, 40, .inr (.inl so))), (o2, .inl (cL, 40, .inr (.inl (bw_q f1 go (bw_ng so T go))))), (q1, .inl (cL, 40, .inr (.inl sb))), (q2, .inl (cL, 40, .inr (.inl gb))), (r1, .inl (cL, 40, .inr (.inl (bw_q f1 bl (bw_nl so sb T go bl)))))]) [0, 1, 2, 3, 4, 5, 6, 7, 8, 9] (by decide) rfl
      exact W.iret (v := nI j) hx hb hr (fun t9 ht9 hW9 => ⟨⟨_, (), rfl, rfl, by rw [ht9]; exact hP9, by exact hD9⟩, hS.F ht9⟩) hS.2.2 dB_inner_36
    · skip
      exact absurd c_5 (bw_jn1 hj)
set_option maxHeartbeats 4000000 in
set_option maxRecDepth 100000 in
theorem c_innerN (l : Launch) (hfl : l.stackTraces = false) (dC : Nat → ClassId) (dI : Nat → Nat → Nat) (x t1 o o1 o2 q q1 q2 r r1 : Nat) (cI cL : ClassId) (T : Int64) (tc : Nat → Int32) (so go : Nat → Int64) (co : Int64) (sb gb : Nat → Int64) (cb : Int64) (bl : Nat → Int64) (f1 f2 : Int32) (k : Nat) (hk : k < 40) (hbl : ∀ h, h < 40 → ∀ i, bw_m ((bw_q f1 bl (bw_nl so sb T go bl)) h) i = true → i < 40) (hn : bw_sm (bw_q f1 bl (bw_nl so sb T go bl)) k 40 = none) (sz : Nat) : bw_MetT l yB_inner wsB_inner ({ frames := 6, cells := 1, slots := 6, locals := 141 } : Room) (bw_Wt (dC, dI) [(cI, .int), (cL, .long)] [(x, .inr (2, [.long T, .ref t1, .ref o, .ref q, .ref r, .int f1, .int f2])), (t1, .inl (cI, 40, .inl tc)), (o, .inr (1, [.ref o1, .ref o2, .long co])), (q, .inr (1, [.ref q1, .ref q2, .long cb])), (r, .inr (0, [.ref r1])), (o1, .inl (cL, 40, .inr (.inl so))), (o2, .inl (cL, 40, .inr (.inl go))), (q1, .inl (cL, 40, .inr (.inl sb))), (q2, .inl (cL, 40, .inr (.inl gb))), (r1, .inl (cL, 40, .inr (.inl bl)))] sz [.ref x, .int (nI k)]) (bw_Qt (S := Unit) (fun (_ : Unit) t => va_P (dC, dI) vwCl [(x, .inr (2, [.long T, .ref t1, .ref o, .ref q, .ref r, .int 0, .int f2])), (t1, .inl (cI, 40, .inl tc)), (o, .inr (1, [.ref o1, .ref o2, .long (bw_q f1 co (bw_nc so T))])), (q, .inr (1, [.ref q1, .ref q2, .long cb])), (r, .inr (0, [.ref r1])), (o1, .inl (cL, 40, .inr (.inl so))), (o2, .inl (cL, 40, .inr (.inl (bw_q f1 go (bw_ng so T go))))), (q1, .inl (cL, 40, .inr (.inl sb))), (q2, .inl (cL, 40, .inr (.inl gb))), (r1, .inl (cL, 40, .inr (.inl (bw_q f1 bl (bw_nl so sb T go bl)))))] t.heap ∧ va_D (va_A [(x, .inr (2, [.long T, .ref t1, .ref o, .ref q, .ref r, .int f1, .int f2])), (t1, .inl (cI, 40, .inl tc)), (o, .inr (1, [.ref o1, .ref o2, .long co])), (q, .inr (1, [.ref q1, .ref q2, .long cb])), (r, .inr (0, [.ref r1])), (o1, .inl (cL, 40, .inr (.inl so))), (o2, .inl (cL, 40, .inr (.inl go))), (q1, .inl (cL, 40, .inr (.inl sb))), (q2, .inl (cL, 40, .inr (.inl gb))), (r1, .inl (cL, 40, .inr (.inl bl)))] sz) [(x, .inr (2, [.long T, .ref t1, .ref o, .ref q, .ref r, .int 0, .int f2])), (t1, .inl (cI, 40, .inl tc)), (o, .inr (1, [.ref o1, .ref o2, .long (bw_q f1 co (bw_nc so T))])), (q, .inr (1, [.ref q1, .ref q2, .long cb])), (r, .inr (0, [.ref r1])), (o1, .inl (cL, 40, .inr (.inl so))), (o2, .inl (cL, 40, .inr (.inl (bw_q f1 go (bw_ng so T go))))), (q1, .inl (cL, 40, .inr (.inl sb))), (q2, .inl (cL, 40, .inr (.inl gb))), (r1, .inl (cL, 40, .inr (.inl (bw_q f1 bl (bw_nl so sb T go bl)))))]) (va_A [(x, .inr (2, [.long T, .ref t1, .ref o, .ref q, .ref r, .int f1, .int f2])), (t1, .inl (cI, 40, .inl tc)), (o, .inr (1, [.ref o1, .ref o2, .long co])), (q, .inr (1, [.ref q1, .ref q2, .long cb])), (r, .inr (0, [.ref r1])), (o1, .inl (cL, 40, .inr (.inl so))), (o2, .inl (cL, 40, .inr (.inl go))), (q1, .inl (cL, 40, .inr (.inl sb))), (q2, .inl (cL, 40, .inr (.inl gb))), (r1, .inl (cL, 40, .inr (.inl bl)))] sz)) 1 6 (va_A [(x, .inr (2, [.long T, .ref t1, .ref o, .ref q, .ref r, .int f1, .int f2])), (t1, .inl (cI, 40, .inl tc)), (o, .inr (1, [.ref o1, .ref o2, .long co])), (q, .inr (1, [.ref q1, .ref q2, .long cb])), (r, .inr (0, [.ref r1])), (o1, .inl (cL, 40, .inr (.inl so))), (o2, .inl (cL, 40, .inr (.inl go))), (q1, .inl (cL, 40, .inr (.inl sb))), (q2, .inl (cL, 40, .inr (.inl gb))), (r1, .inl (cL, 40, .inr (.inl bl)))] sz) := by
  refine bw_MetT.ofW (cc := cB_inner) (maxL := 3) (ret := (some .int)) (by decide) rfl ?_
  intro p e s m args below meth c s₁ B hml hv
  obtain ⟨rfl, hsz, hP, hK, hN, hD0, hth⟩ := hv
  have hP0 := hP
  have hx := B.exec
  have hb := B.bytes
  have hr := B.returns
  have hts := atoms_spec (ws := wsB_inner) B.pre
  have hT : ∀ w ∈ bwB, w.before _ s = true := fun w h => hts w (List.mem_cons_of_mem _ h)
  have hown : s.vm.findClass RB = some m.cls := findClass_of_methodNamed B.named
  have hlocks := B.notSynchronized
  have hno := B.noHandlers (hts _ List.mem_cons_self)
  subst hsz
  have hD := hD0.self (sz := s.heap.size)
  generalize hAe : va_A [(x, .inr (2, [.long T, .ref t1, .ref o, .ref q, .ref r, .int f1, .int f2])), (t1, .inl (cI, 40, .inl tc)), (o, .inr (1, [.ref o1, .ref o2, .long co])), (q, .inr (1, [.ref q1, .ref q2, .long cb])), (r, .inr (0, [.ref r1])), (o1, .inl (cL, 40, .inr (.inl so))), (o2, .inl (cL, 40, .inr (.inl go))), (q1, .inl (cL, 40, .inr (.inl sb))), (q2, .inl (cL, 40, .inr (.inl gb))), (r1, .inl (cL, 40, .inr (.inl bl)))] s.heap.size = A at hD ⊢
  have hA : ∀ q : Nat, s.heap.size ≤ q → A q := fun q h => by rw [← hAe]; exact Or.inr h
  have hS : va_S A s.heap s.heap [] := va_S.rf
  have hP : va_P (dC, dI) vwCl [(x, .inr (2, [.long T, .ref t1, .ref o, .ref q, .ref r, .int f1, .int f2])), (t1, .inl (cI, 40, .inl tc)), (o, .inr (1, [.ref o1, .ref o2, .long co])), (q, .inr (1, [.ref q1, .ref q2, .long cb])), (r, .inr (0, [.ref r1])), (o1, .inl (cL, 40, .inr (.inl so))), (o2, .inl (cL, 40, .inr (.inl go))), (q1, .inl (cL, 40, .inr (.inl sb))), (q2, .inl (cL, 40, .inr (.inl gb))), (r1, .inl (cL, 40, .inr (.inl bl)))] s.heap := hP
  have hl := lv_entry ([.ref x, .int (nI k)]) (n := 3) (Nat.le_of_ble_eq_true rfl)
  rw [lg_entry_eq]
  generalize (lg_sl ([.ref x, .int (nI k)]) ++ List.replicate (3 - (lg_sl ([.ref x, .int (nI k)])).length) Slot.unset).toArray = ls at hl ⊢
  have hl : lv_has ls 3 [(0, .ref x), (1, .int (nI k))] := hl
  refine lv_iload_n hx hb dB_inner_0 rfl (lv_at hl 1 rfl) ?_
  refine vp_callSi (W.runS (As := [.int (nI k)]) (rest := []) ⟨hx, hb, hml, hown, hT⟩ (c_isB1 l k (by omega)) (cwS 1 hT g_B_41 rfl rfl rfl (by decide +kernel) ⟨Nat.le_of_ble_eq_true rfl, Nat.le_of_ble_eq_true rfl⟩) preEq rfl rfl hl.1 rfl (lv_room (Nat.le_of_ble_eq_true rfl)) dB_inner_1 ⟨Nat.le_of_ble_eq_true rfl, Nat.le_of_ble_eq_true rfl⟩) (fun r_1 hr_1 => ?_)
  rw [hr_1]; clear hr_1
  refine lv_if_eq (tgt := 18) hx hb dB_inner_4 (by decide) (fun c_2 => ?_) (fun c_2 => ?_)
  · skip
    exact absurd c_2 (by decide)
  · skip
    refine lv_aload_n hx hb dB_inner_7 rfl (lv_at hl 0 rfl) ?_
    have hPc := hP.sub (ws' := [(x, .inr (2, [.long T, .ref t1, .ref o, .ref q, .ref r, .int f1, .int f2])), (t1, .inl (cI, 40, .inl tc)), (o, .inr (1, [.ref o1, .ref o2, .long co])), (q, .inr (1, [.ref q1, .ref q2, .long cb])), (r, .inr (0, [.ref r1])), (o1, .inl (cL, 40, .inr (.inl so))), (o2, .inl (cL, 40, .inr (.inl go))), (q1, .inl (cL, 40, .inr (.inl sb))), (q2, .inl (cL, 40, .inr (.inl gb))), (r1, .inl (cL, 40, .inr (.inl bl)))]) [0, 1, 2, 3, 4, 5, 6, 7, 8, 9] rfl
    have hDc := hD.sub (ws' := [(x, .inr (2, [.long T, .ref t1, .ref o, .ref q, .ref r, .int f1, .int f2])), (t1, .inl (cI, 40, .inl tc)), (o, .inr (1, [.ref o1, .ref o2, .long co])), (q, .inr (1, [.ref q1, .ref q2, .long cb])), (r, .inr (0, [.ref r1])), (o1, .inl (cL, 40, .inr (.inl so))), (o2, .inl (cL, 40, .inr (.inl go))), (q1, .inl (cL, 40, .inr (.inl sb))), (q2, .inl (cL, 40, .inr (.inl gb))), (r1, .inl (cL, 40, .inr (.inl bl)))]) [0, 1, 2, 3, 4, 5, 6, 7, 8, 9] (by decide) rfl
    have hKc := hK.sub (tys' := [(cI, .int), (cL, .long)]) [0, 1] rfl
    have hFc := va_free (wc := [(x, .inr (2, [.long T, .ref t1, .ref o, .ref q, .ref r, .int f1, .int f2])), (t1, .inl (cI, 40, .inl tc)), (o, .inr (1, [.ref o1, .ref o2, .long co])), (q, .inr (1, [.ref q1, .ref q2, .long cb])), (r, .inr (0, [.ref r1])), (o1, .inl (cL, 40, .inr (.inl so))), (o2, .inl (cL, 40, .inr (.inl go))), (q1, .inl (cL, 40, .inr (.inl sb))), (q2, .inl (cL, 40, .inr (.inl gb))), (r1, .inl (cL, 40, .inr (.inl bl)))]) hD hS hA [0, 1, 2, 3, 4, 5, 6, 7, 8, 9] rfl
    refine va_callr (va_runV (As := []) (rest := []) ⟨hx, hb, hml, hown, hT⟩ (c_freshRounds l dC dI x t1 o o1 o2 q q1 q2 r r1 cI cL T tc so go co sb gb cb bl f1 f2 s.heap.size) (cwV 0 hT g_B_89 rfl rfl rfl (by decide +kernel) ⟨Nat.le_of_ble_eq_true rfl, Nat.le_of_ble_eq_true rfl⟩) (bw_qV hPc hKc hN hDc (ci := 2) (q0 := 0) rfl rfl) rfl rfl hl.1 rfl (lv_room (Nat.le_of_ble_eq_true rfl)) dB_inner_8 ⟨Nat.le_of_ble_eq_true rfl, Nat.le_of_ble_eq_true rfl⟩) hS (fun q _ h => hFc q h) hFc (fun u_3 ra_3 t_3 H1 locs ht hvm hw_3 hB hz1 hk1 hS => ?_)
    obtain ⟨era, hP1, hD1⟩ := hB
    rw [ht] at hP1
    obtain ⟨hP, hD⟩ := va_join (wr := []) (w1 := [(x, .inr (2, [.long T, .ref t1, .ref o, .ref q, .ref r, .int 0, .int f2])), (t1, .inl (cI, 40, .inl tc)), (o, .inr (1, [.ref o1, .ref o2, .long (bw_q f1 co (bw_nc so T))])), (q, .inr (1, [.ref q1, .ref q2, .long cb])), (r, .inr (0, [.ref r1])), (o1, .inl (cL, 40, .inr (.inl so))), (o2, .inl (cL, 40, .inr (.inl (bw_q f1 go (bw_ng so T go))))), (q1, .inl (cL, 40, .inr (.inl sb))), (q2, .inl (cL, 40, .inr (.inl gb))), (r1, .inl (cL, 40, .inr (.inl (bw_q f1 bl (bw_nl so sb T go bl)))))]) hP hD [0, 1, 2, 3, 4, 5, 6, 7, 8, 9] [] rfl rfl (by decide) (by decide) hk1 hFc hP1 hD1
    generalize H1 = H at hP hS ⊢
    have hP : va_P (dC, dI) vwCl [(x, .inr (2, [.long T, .ref t1, .ref o, .ref q, .ref r, .int 0, .int f2])), (t1, .inl (cI, 40, .inl tc)), (o, .inr (1, [.ref o1, .ref o2, .long (bw_q f1 co (bw_nc so T))])), (q, .inr (1, [.ref q1, .ref q2, .long cb])), (r, .inr (0, [.ref r1])), (o1, .inl (cL, 40, .inr (.inl so))), (o2, .inl (cL, 40, .inr (.inl (bw_q f1 go (bw_ng so T go))))), (q1, .inl (cL, 40, .inr (.inl sb))), (q2, .inl (cL, 40, .inr (.inl gb))), (r1, .inl (cL, 40, .inr (.inl (bw_q f1 bl (bw_nl so sb T go bl)))))] H := hP
    have hD : va_D A [(x, .inr (2, [.long T, .ref t1, .ref o, .ref q, .ref r, .int 0, .int f2])), (t1, .inl (cI, 40, .inl tc)), (o, .inr (1, [.ref o1, .ref o2, .long (bw_q f1 co (bw_nc so T))])), (q, .inr (1, [.ref q1, .ref q2, .long cb])), (r, .inr (0, [.ref r1])), (o1, .inl (cL, 40, .inr (.inl so))), (o2, .inl (cL, 40, .inr (.inl (bw_q f1 go (bw_ng so T go))))), (q1, .inl (cL, 40, .inr (.inl sb))), (q2, .inl (cL, 40, .inr (.inl gb))), (r1, .inl (cL, 40, .inr (.inl (bw_q f1 bl (bw_nl so sb T go bl)))))] := hD
    rw [era]; clear era
    refine lv_iload_n hx hb dB_inner_11 rfl (lv_at hl 1 rfl) ?_
    have hPc := hP.sub (ws' := [(r, .inr (0, [.ref r1])), (r1, .inl (cL, 40, .inr (.inl (bw_q f1 bl (bw_nl so sb T go bl)))))]) [4, 9] rfl
    have hKc := hK.sub (tys' := [(cL, .long)]) [1] rfl
    refine vp_callSi (W.runV (As := [.int (nI k)]) (rest := []) ⟨hx, hb, hml, hown, hT⟩ (c_smallestAround l dC dI r r1 cL (bw_q f1 bl (bw_nl so sb T go bl)) hbl k (by omega)) (cwV 1 hT g_B_123 rfl rfl rfl (by decide +kernel) ⟨Nat.le_of_ble_eq_true rfl, Nat.le_of_ble_eq_true rfl⟩) (bw_pV hPc hKc hN (ci := 0) (q0 := 0) rfl rfl) rfl rfl hl.1 rfl (lv_room (Nat.le_of_ble_eq_true rfl)) dB_inner_12 ⟨Nat.le_of_ble_eq_true rfl, Nat.le_of_ble_eq_true rfl⟩) (fun r_4 hr_4 => ?_)
    rw [hr_4]; clear hr_4
    rw [hn, show bw_h none = -1 from rfl]
    refine lv_goto (tgt := 19) hx hb dB_inner_15 (by decide) ?_
    refine lv_istore_n (lv' := [(2, .int (-1)), (0, .ref x), (1, .int (nI k))]) hx hb dB_inner_19 rfl hl (by decide) rfl (fun ls hl => ?_)
    refine lv_iload_n hx hb dB_inner_20 rfl (lv_at hl 0 rfl) ?_
    refine lv_iconst (v := -1) hx hb dB_inner_21 (by decide) ?_
    refine lv_icmp_ne (tgt := 35) hx hb dB_inner_22 (by decide) (fun c_5 => ?_) (fun c_5 => ?_)
    · skip
      exact absurd rfl c_5
    · skip
      have hP9 := hP.sub (ws' := [(x, .inr (2, [.long T, .ref t1, .ref o, .ref q, .ref r, .int 0, .int f2])), (t1, .inl (cI, 40, .inl tc)), (o, .inr (1, [.ref o1, .ref o2, .long (bw_q f1 co (bw_nc so T))])), (q, .inr (1, [.ref q1, .ref q2, .long cb])), (r, .inr (0, [.ref r1])), (o1, .inl (cL, 40, .inr (.inl so))), (o2, .inl (cL, 40, .inr (.inl (bw_q f1 go (bw_ng so T go))))), (q1, .inl (cL, 40, .inr (.inl sb))), (q2, .inl (cL, 40, .inr (.inl gb))), (r1, .inl (cL, 40, .inr (.inl (bw_q f1 bl (bw_nl so sb T go bl)))))]) [0, 1, 2, 3, 4, 5, 6, 7, 8, 9] rfl
      have hD9 := hD.sub (ws' := [(x, .inr (2, [.long T, .ref t1, .ref o, .ref q, .ref r, .int 0, .int f2])), (t1, .inl (cI, 40, .inl tc)), (o, .inr (1, [.ref o1, .ref o2, .long (bw_q f1 co (bw_nc so T))])), (q, .inr (1, [.ref q1, .ref q2, .long cb])), (r, .inr (0, [.ref r1])), (o1, .inl (cL, 40, .inr (.inl so))), (o2, .inl (cL, 40, .inr (.inl (bw_q f1 go (bw_ng so T go))))), (q1, .inl (cL, 40, .inr (.inl sb))), (q2, .inl (cL, 40, .inr (.inl gb))), (r1, .inl (cL, 40, .inr (.inl (bw_q f1 bl (bw_nl so sb T go bl)))))]) [0, 1, 2, 3, 4, 5, 6, 7, 8, 9] (by decide) rfl
      exact bw_thr hx hb hfl hml hl.1 hown hT hth hno hlocks hP0 hAe hS hP9 hD9 (Nat.le_of_ble_eq_true rfl) (Nat.le_of_ble_eq_true rfl) (Nat.le_of_ble_eq_true rfl) (Nat.le_of_ble_eq_true rfl)
set_option maxHeartbeats 4000000 in
set_option maxRecDepth 100000 in
theorem c_inner0 (l : Launch) (hfl : l.stackTraces = false) (dC : Nat → ClassId) (dI : Nat → Nat → Nat) (x t1 o o1 o2 q q1 q2 r r1 : Nat) (cI cL : ClassId) (T : Int64) (tc : Nat → Int32) (so go : Nat → Int64) (co : Int64) (sb gb : Nat → Int64) (cb : Int64) (bl : Nat → Int64) (f1 f2 : Int32) (b : Int32) (hb9 : ∀ k, k < 40 → ¬ b = nI k) (sz : Nat) : bw_MetT l yB_inner wsB_inner ({ frames := 6, cells := 1, slots := 6, locals := 82 } : Room) (bw_Wt (dC, dI) [(cI, .int), (cL, .long)] [(x, .inr (2, [.long T, .ref t1, .ref o, .ref q, .ref r, .int f1, .int f2])), (t1, .inl (cI, 40, .inl tc)), (o, .inr (1, [.ref o1, .ref o2, .long co])), (q, .inr (1, [.ref q1, .ref q2, .long cb])), (r, .inr (0, [.ref r1])), (o1, .inl (cL, 40, .inr (.inl so))), (o2, .inl (cL, 40, .inr (.inl go))), (q1, .inl (cL, 40, .inr (.inl sb))), (q2, .inl (cL, 40, .inr (.inl gb))), (r1, .inl (cL, 40, .inr (.inl bl)))] sz [.ref x, .int b]) (bw_Qt (S := Unit) (fun (_ : Unit) t => va_P (dC, dI) vwCl [(x, .inr (2, [.long T, .ref t1, .ref o, .ref q, .ref r, .int f1, .int f2])), (t1, .inl (cI, 40, .inl tc)), (o, .inr (1, [.ref o1, .ref o2, .long co])), (q, .inr (1, [.ref q1, .ref q2, .long cb])), (r, .inr (0, [.ref r1])), (o1, .inl (cL, 40, .inr (.inl so))), (o2, .inl (cL, 40, .inr (.inl go))), (q1, .inl (cL, 40, .inr (.inl sb))), (q2, .inl (cL, 40, .inr (.inl gb))), (r1, .inl (cL, 40, .inr (.inl bl)))] t.heap ∧ va_D (va_A [(x, .inr (2, [.long T, .ref t1, .ref o, .ref q, .ref r, .int f1, .int f2])), (t1, .inl (cI, 40, .inl tc)), (o, .inr (1, [.ref o1, .ref o2, .long co])), (q, .inr (1, [.ref q1, .ref q2, .long cb])), (r, .inr (0, [.ref r1])), (o1, .inl (cL, 40, .inr (.inl so))), (o2, .inl (cL, 40, .inr (.inl go))), (q1, .inl (cL, 40, .inr (.inl sb))), (q2, .inl (cL, 40, .inr (.inl gb))), (r1, .inl (cL, 40, .inr (.inl bl)))] sz) [(x, .inr (2, [.long T, .ref t1, .ref o, .ref q, .ref r, .int f1, .int f2])), (t1, .inl (cI, 40, .inl tc)), (o, .inr (1, [.ref o1, .ref o2, .long co])), (q, .inr (1, [.ref q1, .ref q2, .long cb])), (r, .inr (0, [.ref r1])), (o1, .inl (cL, 40, .inr (.inl so))), (o2, .inl (cL, 40, .inr (.inl go))), (q1, .inl (cL, 40, .inr (.inl sb))), (q2, .inl (cL, 40, .inr (.inl gb))), (r1, .inl (cL, 40, .inr (.inl bl)))]) (va_A [(x, .inr (2, [.long T, .ref t1, .ref o, .ref q, .ref r, .int f1, .int f2])), (t1, .inl (cI, 40, .inl tc)), (o, .inr (1, [.ref o1, .ref o2, .long co])), (q, .inr (1, [.ref q1, .ref q2, .long cb])), (r, .inr (0, [.ref r1])), (o1, .inl (cL, 40, .inr (.inl so))), (o2, .inl (cL, 40, .inr (.inl go))), (q1, .inl (cL, 40, .inr (.inl sb))), (q2, .inl (cL, 40, .inr (.inl gb))), (r1, .inl (cL, 40, .inr (.inl bl)))] sz)) 1 6 (va_A [(x, .inr (2, [.long T, .ref t1, .ref o, .ref q, .ref r, .int f1, .int f2])), (t1, .inl (cI, 40, .inl tc)), (o, .inr (1, [.ref o1, .ref o2, .long co])), (q, .inr (1, [.ref q1, .ref q2, .long cb])), (r, .inr (0, [.ref r1])), (o1, .inl (cL, 40, .inr (.inl so))), (o2, .inl (cL, 40, .inr (.inl go))), (q1, .inl (cL, 40, .inr (.inl sb))), (q2, .inl (cL, 40, .inr (.inl gb))), (r1, .inl (cL, 40, .inr (.inl bl)))] sz) := by
  refine bw_MetT.ofW (cc := cB_inner) (maxL := 3) (ret := (some .int)) (by decide) rfl ?_
  intro p e s m args below meth c s₁ B hml hv
  obtain ⟨rfl, hsz, hP, hK, hN, hD0, hth⟩ := hv
  have hP0 := hP
  have hx := B.exec
  have hb := B.bytes
  have hr := B.returns
  have hts := atoms_spec (ws := wsB_inner) B.pre
  have hT : ∀ w ∈ bwB, w.before _ s = true := fun w h => hts w (List.mem_cons_of_mem _ h)
  have hown : s.vm.findClass RB = some m.cls := findClass_of_methodNamed B.named
  have hlocks := B.notSynchronized
  have hno := B.noHandlers (hts _ List.mem_cons_self)
  subst hsz
  have hD := hD0.self (sz := s.heap.size)
  generalize hAe : va_A [(x, .inr (2, [.long T, .ref t1, .ref o, .ref q, .ref r, .int f1, .int f2])), (t1, .inl (cI, 40, .inl tc)), (o, .inr (1, [.ref o1, .ref o2, .long co])), (q, .inr (1, [.ref q1, .ref q2, .long cb])), (r, .inr (0, [.ref r1])), (o1, .inl (cL, 40, .inr (.inl so))), (o2, .inl (cL, 40, .inr (.inl go))), (q1, .inl (cL, 40, .inr (.inl sb))), (q2, .inl (cL, 40, .inr (.inl gb))), (r1, .inl (cL, 40, .inr (.inl bl)))] s.heap.size = A at hD ⊢
  have hA : ∀ q : Nat, s.heap.size ≤ q → A q := fun q h => by rw [← hAe]; exact Or.inr h
  have hS : va_S A s.heap s.heap [] := va_S.rf
  have hP : va_P (dC, dI) vwCl [(x, .inr (2, [.long T, .ref t1, .ref o, .ref q, .ref r, .int f1, .int f2])), (t1, .inl (cI, 40, .inl tc)), (o, .inr (1, [.ref o1, .ref o2, .long co])), (q, .inr (1, [.ref q1, .ref q2, .long cb])), (r, .inr (0, [.ref r1])), (o1, .inl (cL, 40, .inr (.inl so))), (o2, .inl (cL, 40, .inr (.inl go))), (q1, .inl (cL, 40, .inr (.inl sb))), (q2, .inl (cL, 40, .inr (.inl gb))), (r1, .inl (cL, 40, .inr (.inl bl)))] s.heap := hP
  have hl := lv_entry ([.ref x, .int b]) (n := 3) (Nat.le_of_ble_eq_true rfl)
  rw [lg_entry_eq]
  generalize (lg_sl ([.ref x, .int b]) ++ List.replicate (3 - (lg_sl ([.ref x, .int b])).length) Slot.unset).toArray = ls at hl ⊢
  have hl : lv_has ls 3 [(0, .ref x), (1, .int b)] := hl
  refine lv_iload_n hx hb dB_inner_0 rfl (lv_at hl 1 rfl) ?_
  refine vp_callSi (W.runS (As := [.int b]) (rest := []) ⟨hx, hb, hml, hown, hT⟩ (c_isB0 l b hb9) (cwS 1 hT g_B_41 rfl rfl rfl (by decide +kernel) ⟨Nat.le_of_ble_eq_true rfl, Nat.le_of_ble_eq_true rfl⟩) preEq rfl rfl hl.1 rfl (lv_room (Nat.le_of_ble_eq_true rfl)) dB_inner_1 ⟨Nat.le_of_ble_eq_true rfl, Nat.le_of_ble_eq_true rfl⟩) (fun r_1 hr_1 => ?_)
  rw [hr_1]; clear hr_1
  refine lv_if_eq (tgt := 18) hx hb dB_inner_4 (by decide) (fun c_2 => ?_) (fun c_2 => ?_)
  · skip
    refine lv_iconst (v := -1) hx hb dB_inner_18 (by decide) ?_
    refine lv_istore_n (lv' := [(2, .int (-1)), (0, .ref x), (1, .int b)]) hx hb dB_inner_19 rfl hl (by decide) rfl (fun ls hl => ?_)
    refine lv_iload_n hx hb dB_inner_20 rfl (lv_at hl 0 rfl) ?_
    refine lv_iconst (v := -1) hx hb dB_inner_21 (by decide) ?_
    refine lv_icmp_ne (tgt := 35) hx hb dB_inner_22 (by decide) (fun c_3 => ?_) (fun c_3 => ?_)
    · skip
      exact absurd rfl c_3
    · skip
      have hP9 := hP.sub (ws' := [(x, .inr (2, [.long T, .ref t1, .ref o, .ref q, .ref r, .int f1, .int f2])), (t1, .inl (cI, 40, .inl tc)), (o, .inr (1, [.ref o1, .ref o2, .long co])), (q, .inr (1, [.ref q1, .ref q2, .long cb])), (r, .inr (0, [.ref r1])), (o1, .inl (cL, 40, .inr (.inl so))), (o2, .inl (cL, 40, .inr (.inl go))), (q1, .inl (cL, 40, .inr (.inl sb))), (q2, .inl (cL, 40, .inr (.inl gb))), (r1, .inl (cL, 40, .inr (.inl bl)))]) [0, 1, 2, 3, 4, 5, 6, 7, 8, 9] rfl
      have hD9 := hD.sub (ws' := [(x, .inr (2, [.long T, .ref t1, .ref o, .ref q, .ref r, .int f1, .int f2])), (t1, .inl (cI, 40, .inl tc)), (o, .inr (1, [.ref o1, .ref o2, .long co])), (q, .inr (1, [.ref q1, .ref q2, .long cb])), (r, .inr (0, [.ref r1])), (o1, .inl (cL, 40, .inr (.inl so))), (o2, .inl (cL, 40, .inr (.inl go))), (q1, .inl (cL, 40, .inr (.inl sb))), (q2, .inl (cL, 40, .inr (.inl gb))), (r1, .inl (cL, 40, .inr (.inl bl)))]) [0, 1, 2, 3, 4, 5, 6, 7, 8, 9] (by decide) rfl
      exact bw_thr hx hb hfl hml hl.1 hown hT hth hno hlocks hP0 hAe hS hP9 hD9 (Nat.le_of_ble_eq_true rfl) (Nat.le_of_ble_eq_true rfl) (Nat.le_of_ble_eq_true rfl) (Nat.le_of_ble_eq_true rfl)
  · skip
    exact absurd rfl c_2
