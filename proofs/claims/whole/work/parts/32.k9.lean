set_option maxHeartbeats 4000000 in
set_option maxRecDepth 100000 in
theorem m_look (l : Launch) (dC : Nat → ClassId) (dI : Nat → Nat → Nat) (y m1 m2 s1 v1 h1 d1 e1 : Nat) (cI cL : ClassId) (tw : Int32) (T : Int64) (mn tg : Nat → Int32) (kn : Int32) (ms : Nat → Int64) (re gd en : Int64) (ov be : Nat → Int64) (he : Int64) (rd ed : Nat → Int64) (pl : Int32) (n : Nat → Nat) (t : Nat → Nat → Nat) (h40 : bw_40 T) (hnt : bw_nt9 T mn tg n t) (hkn : kn = 0 ∨ (kn = 1 ∧ bw_Mk T n t ms re gd en ov be he rd ed pl)) (sz : Nat) : Met l yM_look wsM_look ({ frames := 3, cells := 0, slots := 0, locals := 77 } : Room) (bw_Wr (dC, dI) [(cI, .int), (cL, .long)] [(y, .inr (3, [.int tw, .long T, .ref m1, .ref m2, .int kn, .ref s1, .long re, .long gd, .long en, .ref v1, .ref h1, .long he, .ref d1, .ref e1, .int pl])), (m1, .inl (cI, 40, .inl mn)), (m2, .inl (cI, 160, .inl tg)), (s1, .inl (cL, 40, .inr (.inl ms))), (v1, .inl (cL, 40, .inr (.inl ov))), (h1, .inl (cL, 40, .inr (.inl be))), (d1, .inl (cL, 40, .inr (.inl rd))), (e1, .inl (cL, 40, .inr (.inl ed)))] sz [.ref y]) (va_Qv (S := bw_MS) (fun u => bw_Mk T n t u.1 u.2.1 u.2.2.1 u.2.2.2.1 u.2.2.2.2.1 u.2.2.2.2.2.1 u.2.2.2.2.2.2.1 u.2.2.2.2.2.2.2.1 u.2.2.2.2.2.2.2.2.1 u.2.2.2.2.2.2.2.2.2) (fun (u : bw_MS) t => va_P (dC, dI) vwCl [(y, .inr (3, [.int tw, .long T, .ref m1, .ref m2, .int 1, .ref s1, .long u.2.1, .long u.2.2.1, .long u.2.2.2.1, .ref v1, .ref h1, .long u.2.2.2.2.2.2.1, .ref d1, .ref e1, .int u.2.2.2.2.2.2.2.2.2])), (m1, .inl (cI, 40, .inl mn)), (m2, .inl (cI, 160, .inl tg)), (s1, .inl (cL, 40, .inr (.inl u.1))), (v1, .inl (cL, 40, .inr (.inl u.2.2.2.2.1))), (h1, .inl (cL, 40, .inr (.inl u.2.2.2.2.2.1))), (d1, .inl (cL, 40, .inr (.inl u.2.2.2.2.2.2.2.1))), (e1, .inl (cL, 40, .inr (.inl u.2.2.2.2.2.2.2.2.1)))] t.heap ∧ va_D (va_A [(y, .inr (3, [.int tw, .long T, .ref m1, .ref m2, .int kn, .ref s1, .long re, .long gd, .long en, .ref v1, .ref h1, .long he, .ref d1, .ref e1, .int pl])), (m1, .inl (cI, 40, .inl mn)), (m2, .inl (cI, 160, .inl tg)), (s1, .inl (cL, 40, .inr (.inl ms))), (v1, .inl (cL, 40, .inr (.inl ov))), (h1, .inl (cL, 40, .inr (.inl be))), (d1, .inl (cL, 40, .inr (.inl rd))), (e1, .inl (cL, 40, .inr (.inl ed)))] sz) [(y, .inr (3, [.int tw, .long T, .ref m1, .ref m2, .int 1, .ref s1, .long u.2.1, .long u.2.2.1, .long u.2.2.2.1, .ref v1, .ref h1, .long u.2.2.2.2.2.2.1, .ref d1, .ref e1, .int u.2.2.2.2.2.2.2.2.2])), (m1, .inl (cI, 40, .inl mn)), (m2, .inl (cI, 160, .inl tg)), (s1, .inl (cL, 40, .inr (.inl u.1))), (v1, .inl (cL, 40, .inr (.inl u.2.2.2.2.1))), (h1, .inl (cL, 40, .inr (.inl u.2.2.2.2.2.1))), (d1, .inl (cL, 40, .inr (.inl u.2.2.2.2.2.2.2.1))), (e1, .inl (cL, 40, .inr (.inl u.2.2.2.2.2.2.2.2.1)))]) (va_A [(y, .inr (3, [.int tw, .long T, .ref m1, .ref m2, .int kn, .ref s1, .long re, .long gd, .long en, .ref v1, .ref h1, .long he, .ref d1, .ref e1, .int pl])), (m1, .inl (cI, 40, .inl mn)), (m2, .inl (cI, 160, .inl tg)), (s1, .inl (cL, 40, .inr (.inl ms))), (v1, .inl (cL, 40, .inr (.inl ov))), (h1, .inl (cL, 40, .inr (.inl be))), (d1, .inl (cL, 40, .inr (.inl rd))), (e1, .inl (cL, 40, .inr (.inl ed)))] sz)) 0 0 (va_A [(y, .inr (3, [.int tw, .long T, .ref m1, .ref m2, .int kn, .ref s1, .long re, .long gd, .long en, .ref v1, .ref h1, .long he, .ref d1, .ref e1, .int pl])), (m1, .inl (cI, 40, .inl mn)), (m2, .inl (cI, 160, .inl tg)), (s1, .inl (cL, 40, .inr (.inl ms))), (v1, .inl (cL, 40, .inr (.inl ov))), (h1, .inl (cL, 40, .inr (.inl be))), (d1, .inl (cL, 40, .inr (.inl rd))), (e1, .inl (cL, 40, .inr (.inl ed)))] sz) := by
  refine Met.ofW (cc := cM_look) (maxL := 7) (ret := none) (by decide) rfl ?_
  intro p e s m args below meth c s₁ B hml hv
  obtain ⟨rfl, hsz, hP, hK, hN, hD0⟩ := hv
  have hx := B.exec
  have hb := B.bytes
  have hr := B.returns
  have hts := atoms_spec (ws := wsM_look) B.pre
  have hT : ∀ w ∈ bwB, w.before _ s = true := fun w h => hts w (List.mem_cons_of_mem _ h)
  have hown : s.vm.findClass RM = some m.cls := findClass_of_methodNamed B.named
  have hlocks := B.notSynchronized
  subst hsz
  have hD := hD0.self (sz := s.heap.size)
  generalize hAe : va_A [(y, .inr (3, [.int tw, .long T, .ref m1, .ref m2, .int kn, .ref s1, .long re, .long gd, .long en, .ref v1, .ref h1, .long he, .ref d1, .ref e1, .int pl])), (m1, .inl (cI, 40, .inl mn)), (m2, .inl (cI, 160, .inl tg)), (s1, .inl (cL, 40, .inr (.inl ms))), (v1, .inl (cL, 40, .inr (.inl ov))), (h1, .inl (cL, 40, .inr (.inl be))), (d1, .inl (cL, 40, .inr (.inl rd))), (e1, .inl (cL, 40, .inr (.inl ed)))] s.heap.size = A at hD ⊢
  have hA : ∀ q : Nat, s.heap.size ≤ q → A q := fun q h => by rw [← hAe]; exact Or.inr h
  have hS : va_S A s.heap s.heap [] := va_S.rf
  have hP : va_P (dC, dI) vwCl [(y, .inr (3, [.int tw, .long T, .ref m1, .ref m2, .int kn, .ref s1, .long re, .long gd, .long en, .ref v1, .ref h1, .long he, .ref d1, .ref e1, .int pl])), (m1, .inl (cI, 40, .inl mn)), (m2, .inl (cI, 160, .inl tg)), (s1, .inl (cL, 40, .inr (.inl ms))), (v1, .inl (cL, 40, .inr (.inl ov))), (h1, .inl (cL, 40, .inr (.inl be))), (d1, .inl (cL, 40, .inr (.inl rd))), (e1, .inl (cL, 40, .inr (.inl ed)))] s.heap := hP
  have hl := lv_entry ([.ref y]) (n := 7) (Nat.le_of_ble_eq_true rfl)
  rw [lg_entry_eq]
  generalize (lg_sl ([.ref y]) ++ List.replicate (7 - (lg_sl ([.ref y])).length) Slot.unset).toArray = ls at hl ⊢
  have hl : lv_has ls 7 [(0, .ref y)] := hl
  refine lv_aload_n hx hb dM_look_0 rfl (lv_at hl 0 rfl) ?_
  refine va_get (D := (dC, dI)) (ci := 3) (v := .int kn) (C := RM) (T := TM) (N := 15) hx hb hT inM hown hK hP 0 rfl rfl 4 (by decide) (hT _ hw_342) (fun _ h9 => h9) rfl dM_look_1 ?_
  refine lv_if_eq (tgt := 8) hx hb dM_look_4 (by decide) (fun c_1 => ?_) (fun c_1 => ?_)
  · skip
    refine lv_aload_n hx hb dM_look_8 rfl (lv_at hl 0 rfl) ?_
    refine lv_iconst (v := 1) hx hb dM_look_9 (by decide) ?_
    refine va_put (D := (dC, dI)) (ci := 3) (v := .int 1) (ty := .boolean) (C := RM) (T := TM) (N := 15) hx hb hT inM tyM tokM nmM hown hK hP hD hS 0 rfl rfl 4 (by decide) (hT _ hw_342) (fun _ h9 => h9) rfl (by decide +kernel) rfl rfl (Nat.le_of_ble_eq_true rfl) dM_look_10 (fun H locs hP hD hS => ?_)
    have hP : va_P (dC, dI) vwCl [(y, .inr (3, [.int tw, .long T, .ref m1, .ref m2, .int 1, .ref s1, .long re, .long gd, .long en, .ref v1, .ref h1, .long he, .ref d1, .ref e1, .int pl])), (m1, .inl (cI, 40, .inl mn)), (m2, .inl (cI, 160, .inl tg)), (s1, .inl (cL, 40, .inr (.inl ms))), (v1, .inl (cL, 40, .inr (.inl ov))), (h1, .inl (cL, 40, .inr (.inl be))), (d1, .inl (cL, 40, .inr (.inl rd))), (e1, .inl (cL, 40, .inr (.inl ed)))] H := hP
    have hD : va_D A [(y, .inr (3, [.int tw, .long T, .ref m1, .ref m2, .int 1, .ref s1, .long re, .long gd, .long en, .ref v1, .ref h1, .long he, .ref d1, .ref e1, .int pl])), (m1, .inl (cI, 40, .inl mn)), (m2, .inl (cI, 160, .inl tg)), (s1, .inl (cL, 40, .inr (.inl ms))), (v1, .inl (cL, 40, .inr (.inl ov))), (h1, .inl (cL, 40, .inr (.inl be))), (d1, .inl (cL, 40, .inr (.inl rd))), (e1, .inl (cL, 40, .inr (.inl ed)))] := hD
    refine lv_aload_n hx hb dM_look_13 rfl (lv_at hl 0 rfl) ?_
    refine lv_lconst (v := 0) hx hb dM_look_14 (by decide) ?_
    refine va_put (D := (dC, dI)) (ci := 3) (v := .long 0) (ty := .long) (C := RM) (T := TM) (N := 15) hx hb hT inM tyM tokM nmM hown hK hP hD hS 0 rfl rfl 8 (by decide) (hT _ hw_346) (fun _ h9 => h9) rfl (by decide +kernel) rfl rfl (Nat.le_of_ble_eq_true rfl) dM_look_15 (fun H locs hP hD hS => ?_)
    have hP : va_P (dC, dI) vwCl [(y, .inr (3, [.int tw, .long T, .ref m1, .ref m2, .int 1, .ref s1, .long re, .long gd, .long 0, .ref v1, .ref h1, .long he, .ref d1, .ref e1, .int pl])), (m1, .inl (cI, 40, .inl mn)), (m2, .inl (cI, 160, .inl tg)), (s1, .inl (cL, 40, .inr (.inl ms))), (v1, .inl (cL, 40, .inr (.inl ov))), (h1, .inl (cL, 40, .inr (.inl be))), (d1, .inl (cL, 40, .inr (.inl rd))), (e1, .inl (cL, 40, .inr (.inl ed)))] H := hP
    have hD : va_D A [(y, .inr (3, [.int tw, .long T, .ref m1, .ref m2, .int 1, .ref s1, .long re, .long gd, .long 0, .ref v1, .ref h1, .long he, .ref d1, .ref e1, .int pl])), (m1, .inl (cI, 40, .inl mn)), (m2, .inl (cI, 160, .inl tg)), (s1, .inl (cL, 40, .inr (.inl ms))), (v1, .inl (cL, 40, .inr (.inl ov))), (h1, .inl (cL, 40, .inr (.inl be))), (d1, .inl (cL, 40, .inr (.inl rd))), (e1, .inl (cL, 40, .inr (.inl ed)))] := hD
    refine lv_iconst (v := nI 0) hx hb dM_look_18 (by decide) ?_
    refine lv_istore_n (lv' := [(1, .int (nI 0)), (0, .ref y)]) hx hb dM_look_19 rfl hl (by decide) rfl (fun ls hl => ?_)
    have loop_20 : ∀ (n_20 : Nat) (i : Nat) (g1 : Nat → Int64) (e9 : Int64) (g2 : Nat → Int64) (g3 : Nat → Int64) (g4 : Nat → Int64), (i ≤ 40) → (40 < i + n_20) → (bw_kS T n t i g1) → (bw_kE T n i e9) → (bw_kZ i g2) → (bw_kZ i g3) → (bw_kZ i g4) → ∀ (H : Heap) (locs : List Loc), va_P (dC, dI) vwCl [(y, .inr (3, [.int tw, .long T, .ref m1, .ref m2, .int 1, .ref s1, .long re, .long gd, .long e9, .ref v1, .ref h1, .long he, .ref d1, .ref e1, .int pl])), (m1, .inl (cI, 40, .inl mn)), (m2, .inl (cI, 160, .inl tg)), (s1, .inl (cL, 40, .inr (.inl g1))), (v1, .inl (cL, 40, .inr (.inl g2))), (h1, .inl (cL, 40, .inr (.inl g3))), (d1, .inl (cL, 40, .inr (.inl g4))), (e1, .inl (cL, 40, .inr (.inl ed)))] H → va_D A [(y, .inr (3, [.int tw, .long T, .ref m1, .ref m2, .int 1, .ref s1, .long re, .long gd, .long e9, .ref v1, .ref h1, .long he, .ref d1, .ref e1, .int pl])), (m1, .inl (cI, 40, .inl mn)), (m2, .inl (cI, 160, .inl tg)), (s1, .inl (cL, 40, .inr (.inl g1))), (v1, .inl (cL, 40, .inr (.inl g2))), (h1, .inl (cL, 40, .inr (.inl g3))), (d1, .inl (cL, 40, .inr (.inl g4))), (e1, .inl (cL, 40, .inr (.inl ed)))] → va_S A s.heap H locs → ∀ (ls : Array Slot), lv_has ls 7 [(0, .ref y), (1, .int (nI i))] → W p l e (headSpec wsM_look ({ frames := 3, cells := 0, slots := 0, locals := 77 } : Room)).room s m ([.ref y] : List Value).toArray below meth c H locs 0 0 (MQ below (va_Qv (S := bw_MS) (fun u => bw_Mk T n t u.1 u.2.1 u.2.2.1 u.2.2.2.1 u.2.2.2.2.1 u.2.2.2.2.2.1 u.2.2.2.2.2.2.1 u.2.2.2.2.2.2.2.1 u.2.2.2.2.2.2.2.2.1 u.2.2.2.2.2.2.2.2.2) (fun (u : bw_MS) t => va_P (dC, dI) vwCl [(y, .inr (3, [.int tw, .long T, .ref m1, .ref m2, .int 1, .ref s1, .long u.2.1, .long u.2.2.1, .long u.2.2.2.1, .ref v1, .ref h1, .long u.2.2.2.2.2.2.1, .ref d1, .ref e1, .int u.2.2.2.2.2.2.2.2.2])), (m1, .inl (cI, 40, .inl mn)), (m2, .inl (cI, 160, .inl tg)), (s1, .inl (cL, 40, .inr (.inl u.1))), (v1, .inl (cL, 40, .inr (.inl u.2.2.2.2.1))), (h1, .inl (cL, 40, .inr (.inl u.2.2.2.2.2.1))), (d1, .inl (cL, 40, .inr (.inl u.2.2.2.2.2.2.2.1))), (e1, .inl (cL, 40, .inr (.inl u.2.2.2.2.2.2.2.2.1)))] t.heap ∧ va_D A [(y, .inr (3, [.int tw, .long T, .ref m1, .ref m2, .int 1, .ref s1, .long u.2.1, .long u.2.2.1, .long u.2.2.2.1, .ref v1, .ref h1, .long u.2.2.2.2.2.2.1, .ref d1, .ref e1, .int u.2.2.2.2.2.2.2.2.2])), (m1, .inl (cI, 40, .inl mn)), (m2, .inl (cI, 160, .inl tg)), (s1, .inl (cL, 40, .inr (.inl u.1))), (v1, .inl (cL, 40, .inr (.inl u.2.2.2.2.1))), (h1, .inl (cL, 40, .inr (.inl u.2.2.2.2.2.1))), (d1, .inl (cL, 40, .inr (.inl u.2.2.2.2.2.2.2.1))), (e1, .inl (cL, 40, .inr (.inl u.2.2.2.2.2.2.2.2.1)))]) A) ([.ref y] : List Value).toArray s 0 0 A) (F0 m 20 ls []) := by
      intro n_20
      induction n_20 with
      | zero => intro i g1 e9 g2 g3 g4 hii hfi hS9 hE hZ2 hZ3 hZ4; exfalso; omega
      | succ n_20 ih_20 =>
        intro i g1 e9 g2 g3 g4 hii hfi hS9 hE hZ2 hZ3 hZ4 H locs hP hD hS ls hl
        refine lv_iload_n hx hb dM_look_20 rfl (lv_at hl 1 rfl) ?_
        refine lv_bipush (v := nI 40) hx hb dM_look_21 (by decide) ?_
        refine lv_icmp_ge (tgt := 153) hx hb dM_look_23 (by decide) (fun c_2 => ?_) (fun c_2 => ?_)
        · skip
          have c_2 : 40 ≤ i := (nI_leI (a := 40) (b := i) (by omega) (by omega)).mp c_2
          have e40 : i = 40 := by omega
          have hms := bw_kS_ms hS9 e40
          have hsb := bw_kS_sb h40 hS9 e40
          have hen := bw_en_T hE
          refine lv_aload_n hx hb dM_look_153 rfl (lv_at hl 0 rfl) ?_
          refine lv_aload_n hx hb dM_look_154 rfl (lv_at hl 0 rfl) ?_
          refine lv_iconst (v := -1) hx hb dM_look_155 (by decide) ?_
          have hPc := hP
          have hKc := hK
          refine vp_callSl (W.runV (As := [.int (-1)]) (rest := [.ref y]) ⟨hx, hb, hml, hown, hT⟩ (m_comeToN l dC dI y m1 m2 s1 v1 h1 d1 e1 cI cL tw T mn tg 1 g1 re gd e9 g2 g3 he g4 ed pl) (cwV 1 hT g_M_61 rfl rfl rfl (by decide +kernel) ⟨Nat.le_of_ble_eq_true rfl, Nat.le_of_ble_eq_true rfl⟩) (bw_pV hPc hKc hN (ci := 3) (q0 := 0) rfl rfl) rfl rfl hl.1 rfl (lv_room (Nat.le_of_ble_eq_true rfl)) dM_look_156 ⟨Nat.le_of_ble_eq_true rfl, Nat.le_of_ble_eq_true rfl⟩) (fun r_3 hr_3 => ?_)
          have hre := bw_come h40 hms (fun d z => by cases z) hr_3
          refine va_put (D := (dC, dI)) (ci := 3) (v := .long r_3) (ty := .long) (C := RM) (T := TM) (N := 15) hx hb hT inM tyM tokM nmM hown hK hP hD hS 0 rfl rfl 6 (by decide) (hT _ hw_344) (fun _ h9 => h9) rfl (by decide +kernel) rfl rfl (Nat.le_of_ble_eq_true rfl) dM_look_159 (fun H locs hP hD hS => ?_)
          have hP : va_P (dC, dI) vwCl [(y, .inr (3, [.int tw, .long T, .ref m1, .ref m2, .int 1, .ref s1, .long r_3, .long gd, .long e9, .ref v1, .ref h1, .long he, .ref d1, .ref e1, .int pl])), (m1, .inl (cI, 40, .inl mn)), (m2, .inl (cI, 160, .inl tg)), (s1, .inl (cL, 40, .inr (.inl g1))), (v1, .inl (cL, 40, .inr (.inl g2))), (h1, .inl (cL, 40, .inr (.inl g3))), (d1, .inl (cL, 40, .inr (.inl g4))), (e1, .inl (cL, 40, .inr (.inl ed)))] H := hP
          have hD : va_D A [(y, .inr (3, [.int tw, .long T, .ref m1, .ref m2, .int 1, .ref s1, .long r_3, .long gd, .long e9, .ref v1, .ref h1, .long he, .ref d1, .ref e1, .int pl])), (m1, .inl (cI, 40, .inl mn)), (m2, .inl (cI, 160, .inl tg)), (s1, .inl (cL, 40, .inr (.inl g1))), (v1, .inl (cL, 40, .inr (.inl g2))), (h1, .inl (cL, 40, .inr (.inl g3))), (d1, .inl (cL, 40, .inr (.inl g4))), (e1, .inl (cL, 40, .inr (.inl ed)))] := hD
          refine lv_aload_n hx hb dM_look_162 rfl (lv_at hl 0 rfl) ?_
          refine lv_aload_n hx hb dM_look_163 rfl (lv_at hl 0 rfl) ?_
          refine lv_aload_n hx hb dM_look_164 rfl (lv_at hl 0 rfl) ?_
          refine va_get (D := (dC, dI)) (ci := 3) (v := .long e9) (C := RM) (T := TM) (N := 15) hx hb hT inM hown hK hP 0 rfl rfl 8 (by decide) (hT _ hw_346) (fun _ h9 => h9) rfl dM_look_165 ?_
          refine lv_iconst (v := -1) hx hb dM_look_168 (by decide) ?_
          have hPc := hP
          have hKc := hK
          refine vp_callSl (W.runV (As := [.long e9, .int (-1)]) (rest := [.ref y]) ⟨hx, hb, hml, hown, hT⟩ (m_leadToN l dC dI y m1 m2 s1 v1 h1 d1 e1 cI cL tw T mn tg 1 g1 r_3 gd e9 g2 g3 he g4 ed pl e9) (cwV 2 hT g_M_67 rfl rfl rfl (by decide +kernel) ⟨Nat.le_of_ble_eq_true rfl, Nat.le_of_ble_eq_true rfl⟩) (bw_pV hPc hKc hN (ci := 3) (q0 := 0) rfl rfl) rfl rfl hl.1 rfl (lv_room (Nat.le_of_ble_eq_true rfl)) dM_look_169 ⟨Nat.le_of_ble_eq_true rfl, Nat.le_of_ble_eq_true rfl⟩) (fun r_4 hr_4 => ?_)
          have hgd := bw_leadE h40 hms hsb hen (fun d z => by cases z) hr_4
          refine va_put (D := (dC, dI)) (ci := 3) (v := .long r_4) (ty := .long) (C := RM) (T := TM) (N := 15) hx hb hT inM tyM tokM nmM hown hK hP hD hS 0 rfl rfl 7 (by decide) (hT _ hw_345) (fun _ h9 => h9) rfl (by decide +kernel) rfl rfl (Nat.le_of_ble_eq_true rfl) dM_look_172 (fun H locs hP hD hS => ?_)
          have hP : va_P (dC, dI) vwCl [(y, .inr (3, [.int tw, .long T, .ref m1, .ref m2, .int 1, .ref s1, .long r_3, .long r_4, .long e9, .ref v1, .ref h1, .long he, .ref d1, .ref e1, .int pl])), (m1, .inl (cI, 40, .inl mn)), (m2, .inl (cI, 160, .inl tg)), (s1, .inl (cL, 40, .inr (.inl g1))), (v1, .inl (cL, 40, .inr (.inl g2))), (h1, .inl (cL, 40, .inr (.inl g3))), (d1, .inl (cL, 40, .inr (.inl g4))), (e1, .inl (cL, 40, .inr (.inl ed)))] H := hP
          have hD : va_D A [(y, .inr (3, [.int tw, .long T, .ref m1, .ref m2, .int 1, .ref s1, .long r_3, .long r_4, .long e9, .ref v1, .ref h1, .long he, .ref d1, .ref e1, .int pl])), (m1, .inl (cI, 40, .inl mn)), (m2, .inl (cI, 160, .inl tg)), (s1, .inl (cL, 40, .inr (.inl g1))), (v1, .inl (cL, 40, .inr (.inl g2))), (h1, .inl (cL, 40, .inr (.inl g3))), (d1, .inl (cL, 40, .inr (.inl g4))), (e1, .inl (cL, 40, .inr (.inl ed)))] := hD
          refine lv_iconst (v := nI 0) hx hb dM_look_175 (by decide) ?_
          refine lv_istore_n (lv' := [(1, .int (nI 0)), (0, .ref y)]) hx hb dM_look_176 rfl hl (by decide) rfl (fun ls hl => ?_)
          have loop_177 : ∀ (n_177 : Nat) (d : Nat) (g6 : Nat → Int64) (g7 : Nat → Int64), (d ≤ 40) → (40 < d + n_177) → (bw_oO (bw_D (bw_IF T) (bw_EF T g1)) d g6) → (bw_oO (bw_D (bw_I e9 T) (bw_EB T g1)) d g7) → ∀ (H : Heap) (locs : List Loc), va_P (dC, dI) vwCl [(y, .inr (3, [.int tw, .long T, .ref m1, .ref m2, .int 1, .ref s1, .long r_3, .long r_4, .long e9, .ref v1, .ref h1, .long he, .ref d1, .ref e1, .int pl])), (m1, .inl (cI, 40, .inl mn)), (m2, .inl (cI, 160, .inl tg)), (s1, .inl (cL, 40, .inr (.inl g1))), (v1, .inl (cL, 40, .inr (.inl g6))), (h1, .inl (cL, 40, .inr (.inl g7))), (d1, .inl (cL, 40, .inr (.inl g4))), (e1, .inl (cL, 40, .inr (.inl ed)))] H → va_D A [(y, .inr (3, [.int tw, .long T, .ref m1, .ref m2, .int 1, .ref s1, .long r_3, .long r_4, .long e9, .ref v1, .ref h1, .long he, .ref d1, .ref e1, .int pl])), (m1, .inl (cI, 40, .inl mn)), (m2, .inl (cI, 160, .inl tg)), (s1, .inl (cL, 40, .inr (.inl g1))), (v1, .inl (cL, 40, .inr (.inl g6))), (h1, .inl (cL, 40, .inr (.inl g7))), (d1, .inl (cL, 40, .inr (.inl g4))), (e1, .inl (cL, 40, .inr (.inl ed)))] → va_S A s.heap H locs → ∀ (ls : Array Slot), lv_has ls 7 [(0, .ref y), (1, .int (nI d))] → W p l e (headSpec wsM_look ({ frames := 3, cells := 0, slots := 0, locals := 77 } : Room)).room s m ([.ref y] : List Value).toArray below meth c H locs 0 0 (MQ below (va_Qv (S := bw_MS) (fun u => bw_Mk T n t u.1 u.2.1 u.2.2.1 u.2.2.2.1 u.2.2.2.2.1 u.2.2.2.2.2.1 u.2.2.2.2.2.2.1 u.2.2.2.2.2.2.2.1 u.2.2.2.2.2.2.2.2.1 u.2.2.2.2.2.2.2.2.2) (fun (u : bw_MS) t => va_P (dC, dI) vwCl [(y, .inr (3, [.int tw, .long T, .ref m1, .ref m2, .int 1, .ref s1, .long u.2.1, .long u.2.2.1, .long u.2.2.2.1, .ref v1, .ref h1, .long u.2.2.2.2.2.2.1, .ref d1, .ref e1, .int u.2.2.2.2.2.2.2.2.2])), (m1, .inl (cI, 40, .inl mn)), (m2, .inl (cI, 160, .inl tg)), (s1, .inl (cL, 40, .inr (.inl u.1))), (v1, .inl (cL, 40, .inr (.inl u.2.2.2.2.1))), (h1, .inl (cL, 40, .inr (.inl u.2.2.2.2.2.1))), (d1, .inl (cL, 40, .inr (.inl u.2.2.2.2.2.2.2.1))), (e1, .inl (cL, 40, .inr (.inl u.2.2.2.2.2.2.2.2.1)))] t.heap ∧ va_D A [(y, .inr (3, [.int tw, .long T, .ref m1, .ref m2, .int 1, .ref s1, .long u.2.1, .long u.2.2.1, .long u.2.2.2.1, .ref v1, .ref h1, .long u.2.2.2.2.2.2.1, .ref d1, .ref e1, .int u.2.2.2.2.2.2.2.2.2])), (m1, .inl (cI, 40, .inl mn)), (m2, .inl (cI, 160, .inl tg)), (s1, .inl (cL, 40, .inr (.inl u.1))), (v1, .inl (cL, 40, .inr (.inl u.2.2.2.2.1))), (h1, .inl (cL, 40, .inr (.inl u.2.2.2.2.2.1))), (d1, .inl (cL, 40, .inr (.inl u.2.2.2.2.2.2.2.1))), (e1, .inl (cL, 40, .inr (.inl u.2.2.2.2.2.2.2.2.1)))]) A) ([.ref y] : List Value).toArray s 0 0 A) (F0 m 177 ls []) := by
            intro n_177
            induction n_177 with
            | zero => intro d g6 g7 hid hfd hQ1 hQ2; exfalso; omega
            | succ n_177 ih_177 =>
              intro d g6 g7 hid hfd hQ1 hQ2 H locs hP hD hS ls hl
              refine lv_iload_n hx hb dM_look_177 rfl (lv_at hl 1 rfl) ?_
              refine lv_bipush (v := nI 40) hx hb dM_look_178 (by decide) ?_
              refine lv_icmp_ge (tgt := 327) hx hb dM_look_180 (by decide) (fun c_5 => ?_) (fun c_5 => ?_)
              · skip
                have c_5 : 40 ≤ d := (nI_leI (a := 40) (b := d) (by omega) (by omega)).mp c_5
                refine lv_aload_n hx hb dM_look_327 rfl (lv_at hl 0 rfl) ?_
                have hPc := hP.sub (ws' := [(y, .inr (3, [.int tw, .long T, .ref m1, .ref m2, .int 1, .ref s1, .long r_3, .long r_4, .long e9, .ref v1, .ref h1, .long he, .ref d1, .ref e1, .int pl])), (m1, .inl (cI, 40, .inl mn)), (m2, .inl (cI, 160, .inl tg)), (s1, .inl (cL, 40, .inr (.inl g1))), (v1, .inl (cL, 40, .inr (.inl g6))), (h1, .inl (cL, 40, .inr (.inl g7))), (d1, .inl (cL, 40, .inr (.inl g4))), (e1, .inl (cL, 40, .inr (.inl ed)))]) [0, 1, 2, 3, 4, 5, 6, 7] rfl
                have hDc := hD.sub (ws' := [(y, .inr (3, [.int tw, .long T, .ref m1, .ref m2, .int 1, .ref s1, .long r_3, .long r_4, .long e9, .ref v1, .ref h1, .long he, .ref d1, .ref e1, .int pl])), (m1, .inl (cI, 40, .inl mn)), (m2, .inl (cI, 160, .inl tg)), (s1, .inl (cL, 40, .inr (.inl g1))), (v1, .inl (cL, 40, .inr (.inl g6))), (h1, .inl (cL, 40, .inr (.inl g7))), (d1, .inl (cL, 40, .inr (.inl g4))), (e1, .inl (cL, 40, .inr (.inl ed)))]) [0, 1, 2, 3, 4, 5, 6, 7] (by decide) rfl
                have hKc := hK.sub (tys' := [(cI, .int), (cL, .long)]) [0, 1] rfl
                have hFc := va_free (wc := [(y, .inr (3, [.int tw, .long T, .ref m1, .ref m2, .int 1, .ref s1, .long r_3, .long r_4, .long e9, .ref v1, .ref h1, .long he, .ref d1, .ref e1, .int pl])), (m1, .inl (cI, 40, .inl mn)), (m2, .inl (cI, 160, .inl tg)), (s1, .inl (cL, 40, .inr (.inl g1))), (v1, .inl (cL, 40, .inr (.inl g6))), (h1, .inl (cL, 40, .inr (.inl g7))), (d1, .inl (cL, 40, .inr (.inl g4))), (e1, .inl (cL, 40, .inr (.inl ed)))]) hD hS hA [0, 1, 2, 3, 4, 5, 6, 7] rfl
                refine va_callv (va_runV (As := []) (rest := []) ⟨hx, hb, hml, hown, hT⟩ (m_lookAtRounds l dC dI y m1 m2 s1 v1 h1 d1 e1 cI cL tw T mn tg 1 g1 r_3 r_4 e9 g6 g7 he g4 ed pl (fun i hi => h40 i (bw_G_T ((hre i).mp hi))) (fun h hh => hZ4 h (by omega)) H.size) (cwV 0 hT g_M_74 rfl rfl rfl (by decide +kernel) ⟨Nat.le_of_ble_eq_true rfl, Nat.le_of_ble_eq_true rfl⟩) (bw_qV hPc hKc hN hDc (ci := 3) (q0 := 0) rfl rfl) rfl rfl hl.1 rfl (lv_room (Nat.le_of_ble_eq_true rfl)) dM_look_328 ⟨Nat.le_of_ble_eq_true rfl, Nat.le_of_ble_eq_true rfl⟩) hS (fun q _ h => hFc q h) hFc (fun u_6 t_6 H1 locs ht hvm hw_6 hB hz1 hk1 hS => ?_)
                obtain ⟨hd9, hg9, hp9⟩ := u_6
                obtain ⟨hP1, hD1⟩ := hB
                rw [ht] at hP1
                obtain ⟨hP, hD⟩ := va_join (wr := []) (w1 := [(y, .inr (3, [.int tw, .long T, .ref m1, .ref m2, .int 1, .ref s1, .long r_3, .long r_4, .long e9, .ref v1, .ref h1, .long hd9, .ref d1, .ref e1, .int hp9])), (m1, .inl (cI, 40, .inl mn)), (m2, .inl (cI, 160, .inl tg)), (s1, .inl (cL, 40, .inr (.inl g1))), (v1, .inl (cL, 40, .inr (.inl g6))), (h1, .inl (cL, 40, .inr (.inl g7))), (d1, .inl (cL, 40, .inr (.inl hg9))), (e1, .inl (cL, 40, .inr (.inl ed)))]) hP hD [0, 1, 2, 3, 4, 5, 6, 7] [] rfl rfl (by decide) (by decide) hk1 hFc hP1 hD1
                generalize H1 = H at hP hS ⊢
                have hP : va_P (dC, dI) vwCl [(y, .inr (3, [.int tw, .long T, .ref m1, .ref m2, .int 1, .ref s1, .long r_3, .long r_4, .long e9, .ref v1, .ref h1, .long hd9, .ref d1, .ref e1, .int hp9])), (m1, .inl (cI, 40, .inl mn)), (m2, .inl (cI, 160, .inl tg)), (s1, .inl (cL, 40, .inr (.inl g1))), (v1, .inl (cL, 40, .inr (.inl g6))), (h1, .inl (cL, 40, .inr (.inl g7))), (d1, .inl (cL, 40, .inr (.inl hg9))), (e1, .inl (cL, 40, .inr (.inl ed)))] H := hP
                have hD : va_D A [(y, .inr (3, [.int tw, .long T, .ref m1, .ref m2, .int 1, .ref s1, .long r_3, .long r_4, .long e9, .ref v1, .ref h1, .long hd9, .ref d1, .ref e1, .int hp9])), (m1, .inl (cI, 40, .inl mn)), (m2, .inl (cI, 160, .inl tg)), (s1, .inl (cL, 40, .inr (.inl g1))), (v1, .inl (cL, 40, .inr (.inl g6))), (h1, .inl (cL, 40, .inr (.inl g7))), (d1, .inl (cL, 40, .inr (.inl hg9))), (e1, .inl (cL, 40, .inr (.inl ed)))] := hD
                refine lv_aload_n hx hb dM_look_331 rfl (lv_at hl 0 rfl) ?_
                have hPc := hP.sub (ws' := [(y, .inr (3, [.int tw, .long T, .ref m1, .ref m2, .int 1, .ref s1, .long r_3, .long r_4, .long e9, .ref v1, .ref h1, .long hd9, .ref d1, .ref e1, .int hp9])), (m1, .inl (cI, 40, .inl mn)), (m2, .inl (cI, 160, .inl tg)), (s1, .inl (cL, 40, .inr (.inl g1))), (v1, .inl (cL, 40, .inr (.inl g6))), (h1, .inl (cL, 40, .inr (.inl g7))), (d1, .inl (cL, 40, .inr (.inl hg9))), (e1, .inl (cL, 40, .inr (.inl ed)))]) [0, 1, 2, 3, 4, 5, 6, 7] rfl
                have hDc := hD.sub (ws' := [(y, .inr (3, [.int tw, .long T, .ref m1, .ref m2, .int 1, .ref s1, .long r_3, .long r_4, .long e9, .ref v1, .ref h1, .long hd9, .ref d1, .ref e1, .int hp9])), (m1, .inl (cI, 40, .inl mn)), (m2, .inl (cI, 160, .inl tg)), (s1, .inl (cL, 40, .inr (.inl g1))), (v1, .inl (cL, 40, .inr (.inl g6))), (h1, .inl (cL, 40, .inr (.inl g7))), (d1, .inl (cL, 40, .inr (.inl hg9))), (e1, .inl (cL, 40, .inr (.inl ed)))]) [0, 1, 2, 3, 4, 5, 6, 7] (by decide) rfl
                have hKc := hK.sub (tys' := [(cI, .int), (cL, .long)]) [0, 1] rfl
                have hFc := va_free (wc := [(y, .inr (3, [.int tw, .long T, .ref m1, .ref m2, .int 1, .ref s1, .long r_3, .long r_4, .long e9, .ref v1, .ref h1, .long hd9, .ref d1, .ref e1, .int hp9])), (m1, .inl (cI, 40, .inl mn)), (m2, .inl (cI, 160, .inl tg)), (s1, .inl (cL, 40, .inr (.inl g1))), (v1, .inl (cL, 40, .inr (.inl g6))), (h1, .inl (cL, 40, .inr (.inl g7))), (d1, .inl (cL, 40, .inr (.inl hg9))), (e1, .inl (cL, 40, .inr (.inl ed)))]) hD hS hA [0, 1, 2, 3, 4, 5, 6, 7] rfl
                refine va_callv (va_runV (As := []) (rest := []) ⟨hx, hb, hml, hown, hT⟩ (m_lookAtEdges l dC dI y m1 m2 s1 v1 h1 d1 e1 cI cL tw T mn tg 1 g1 r_3 r_4 e9 g6 g7 hd9 hg9 ed hp9 H.size) (cwV 0 hT g_M_77 rfl rfl rfl (by decide +kernel) ⟨Nat.le_of_ble_eq_true rfl, Nat.le_of_ble_eq_true rfl⟩) (bw_qV hPc hKc hN hDc (ci := 3) (q0 := 0) rfl rfl) rfl rfl hl.1 rfl (lv_room (Nat.le_of_ble_eq_true rfl)) dM_look_332 ⟨Nat.le_of_ble_eq_true rfl, Nat.le_of_ble_eq_true rfl⟩) hS (fun q _ h => hFc q h) hFc (fun u_7 t_7 H1 locs ht hvm hw_7 hB hz1 hk1 hS => ?_)
                obtain ⟨hP1, hD1⟩ := hB
                rw [ht] at hP1
                obtain ⟨hP, hD⟩ := va_join (wr := []) (w1 := [(y, .inr (3, [.int tw, .long T, .ref m1, .ref m2, .int 1, .ref s1, .long r_3, .long r_4, .long e9, .ref v1, .ref h1, .long hd9, .ref d1, .ref e1, .int hp9])), (m1, .inl (cI, 40, .inl mn)), (m2, .inl (cI, 160, .inl tg)), (s1, .inl (cL, 40, .inr (.inl g1))), (v1, .inl (cL, 40, .inr (.inl g6))), (h1, .inl (cL, 40, .inr (.inl g7))), (d1, .inl (cL, 40, .inr (.inl hg9))), (e1, .inl (cL, 40, .inr (.inl u_7)))]) hP hD [0, 1, 2, 3, 4, 5, 6, 7] [] rfl rfl (by decide) (by decide) hk1 hFc hP1 hD1
                generalize H1 = H at hP hS ⊢
                have hP : va_P (dC, dI) vwCl [(y, .inr (3, [.int tw, .long T, .ref m1, .ref m2, .int 1, .ref s1, .long r_3, .long r_4, .long e9, .ref v1, .ref h1, .long hd9, .ref d1, .ref e1, .int hp9])), (m1, .inl (cI, 40, .inl mn)), (m2, .inl (cI, 160, .inl tg)), (s1, .inl (cL, 40, .inr (.inl g1))), (v1, .inl (cL, 40, .inr (.inl g6))), (h1, .inl (cL, 40, .inr (.inl g7))), (d1, .inl (cL, 40, .inr (.inl hg9))), (e1, .inl (cL, 40, .inr (.inl u_7)))] H := hP
                have hD : va_D A [(y, .inr (3, [.int tw, .long T, .ref m1, .ref m2, .int 1, .ref s1, .long r_3, .long r_4, .long e9, .ref v1, .ref h1, .long hd9, .ref d1, .ref e1, .int hp9])), (m1, .inl (cI, 40, .inl mn)), (m2, .inl (cI, 160, .inl tg)), (s1, .inl (cL, 40, .inr (.inl g1))), (v1, .inl (cL, 40, .inr (.inl g6))), (h1, .inl (cL, 40, .inr (.inl g7))), (d1, .inl (cL, 40, .inr (.inl hg9))), (e1, .inl (cL, 40, .inr (.inl u_7)))] := hD
                have hP9 := hP.sub (ws' := [(y, .inr (3, [.int tw, .long T, .ref m1, .ref m2, .int 1, .ref s1, .long r_3, .long r_4, .long e9, .ref v1, .ref h1, .long hd9, .ref d1, .ref e1, .int hp9])), (m1, .inl (cI, 40, .inl mn)), (m2, .inl (cI, 160, .inl tg)), (s1, .inl (cL, 40, .inr (.inl g1))), (v1, .inl (cL, 40, .inr (.inl g6))), (h1, .inl (cL, 40, .inr (.inl g7))), (d1, .inl (cL, 40, .inr (.inl hg9))), (e1, .inl (cL, 40, .inr (.inl u_7)))]) [0, 1, 2, 3, 4, 5, 6, 7] rfl
                have hD9 := hD.sub (ws' := [(y, .inr (3, [.int tw, .long T, .ref m1, .ref m2, .int 1, .ref s1, .long r_3, .long r_4, .long e9, .ref v1, .ref h1, .long hd9, .ref d1, .ref e1, .int hp9])), (m1, .inl (cI, 40, .inl mn)), (m2, .inl (cI, 160, .inl tg)), (s1, .inl (cL, 40, .inr (.inl g1))), (v1, .inl (cL, 40, .inr (.inl g6))), (h1, .inl (cL, 40, .inr (.inl g7))), (d1, .inl (cL, 40, .inr (.inl hg9))), (e1, .inl (cL, 40, .inr (.inl u_7)))]) [0, 1, 2, 3, 4, 5, 6, 7] (by decide) rfl
                exact W.vret hx hb hr (fun t9 ht9 hW9 => ⟨⟨(g1, r_3, r_4, e9, g6, g7, hd9, hg9, u_7, hp9), rfl, ⟨by rw [← e40]; exact hS9, by rw [← e40]; exact hE, hre, hgd, bw_oO_e hQ1 (by omega), bw_oO_e hQ2 (by omega), hw_6.1, hw_7, hw_6.2⟩, by rw [ht9]; exact hP9, hD9⟩, hS.F ht9⟩) hS.2.2 dM_look_335
              · skip
                have c_5 : ¬ 40 ≤ d := fun z => c_5 ((nI_leI (a := 40) (b := d) (by omega) (by omega)).mpr z)
                refine lv_aload_n hx hb dM_look_183 rfl (lv_at hl 0 rfl) ?_
                refine va_get (D := (dC, dI)) (ci := 3) (v := .long r_3) (C := RM) (T := TM) (N := 15) hx hb hT inM hown hK hP 0 rfl rfl 6 (by decide) (hT _ hw_344) (fun _ h9 => h9) rfl dM_look_184 ?_
                refine lv_iload_n hx hb dM_look_187 rfl (lv_at hl 1 rfl) ?_
                refine vp_callSi (W.runS (As := [.long r_3, .int (nI d)]) (rest := []) ⟨hx, hb, hml, hown, hT⟩ (m_is l r_3 d (by omega)) (cwS 2 hT g_M_36 rfl rfl rfl (by decide +kernel) ⟨Nat.le_of_ble_eq_true rfl, Nat.le_of_ble_eq_true rfl⟩) preEq rfl rfl hl.1 rfl (lv_room (Nat.le_of_ble_eq_true rfl)) dM_look_188 ⟨Nat.le_of_ble_eq_true rfl, Nat.le_of_ble_eq_true rfl⟩) (fun r_8 hr_8 => ?_)
                rw [hr_8]; clear hr_8
                refine lv_if_eq (tgt := 211) hx hb dM_look_191 (by decide) (fun c_9 => ?_) (fun c_9 => ?_)
                · skip
                  have c_9 := bw_i0.mp c_9
                  refine lv_lconst (v := 0) hx hb dM_look_211 (by decide) ?_
                  refine lv_lstore_n (lv' := [(2, .long 0), (0, .ref y), (1, .int (nI d))]) hx hb dM_look_212 rfl hl (by decide) rfl (fun ls hl => ?_)
                  obtain ⟨nn, e_nn⟩ : ∃ z : Int64, z = 0 := ⟨_, rfl⟩
                  have hl : lv_has ls 7 [(2, .long nn), (0, .ref y), (1, .int (nI d))] := by rw [e_nn]; exact hl
                  have hnn : ∀ b, bw_m nn b = true ↔ bw_D (bw_IF T) (bw_EF T g1) d b := by rw [e_nn]; exact bw_nn0 hre c_9
                  refine lv_aload_n hx hb dM_look_213 rfl (lv_at hl 1 rfl) ?_
                  refine va_get (D := (dC, dI)) (ci := 3) (v := .long r_4) (C := RM) (T := TM) (N := 15) hx hb hT inM hown hK hP 0 rfl rfl 7 (by decide) (hT _ hw_345) (fun _ h9 => h9) rfl dM_look_214 ?_
                  refine lv_iload_n hx hb dM_look_217 rfl (lv_at hl 2 rfl) ?_
                  refine vp_callSi (W.runS (As := [.long r_4, .int (nI d)]) (rest := []) ⟨hx, hb, hml, hown, hT⟩ (m_is l r_4 d (by omega)) (cwS 2 hT g_M_36 rfl rfl rfl (by decide +kernel) ⟨Nat.le_of_ble_eq_true rfl, Nat.le_of_ble_eq_true rfl⟩) preEq rfl rfl hl.1 rfl (lv_room (Nat.le_of_ble_eq_true rfl)) dM_look_218 ⟨Nat.le_of_ble_eq_true rfl, Nat.le_of_ble_eq_true rfl⟩) (fun r_10 hr_10 => ?_)
                  rw [hr_10]; clear hr_10
                  refine lv_if_eq (tgt := 245) hx hb dM_look_221 (by decide) (fun c_11 => ?_) (fun c_11 => ?_)
                  · skip
                    have c_11 := bw_i0.mp c_11
                    refine lv_lconst (v := 0) hx hb dM_look_245 (by decide) ?_
                    refine lv_lstore (lv' := [(4, .long 0), (2, .long nn), (0, .ref y), (1, .int (nI d))]) hx hb dM_look_246 hl (by decide) rfl (fun ls hl => ?_)
                    obtain ⟨ll, e_ll⟩ : ∃ z : Int64, z = 0 := ⟨_, rfl⟩
                    have hl : lv_has ls 7 [(4, .long ll), (2, .long nn), (0, .ref y), (1, .int (nI d))] := by rw [e_ll]; exact hl
                    have hll : ∀ b, bw_m ll b = true ↔ bw_D (bw_I e9 T) (bw_EB T g1) d b := by rw [e_ll]; exact bw_nn0 hgd c_11
                    refine lv_iconst (v := nI 0) hx hb dM_look_248 (by decide) ?_
                    refine lv_istore (lv' := [(6, .int (nI 0)), (4, .long ll), (2, .long nn), (0, .ref y), (1, .int (nI d))]) hx hb dM_look_249 hl (by decide) rfl (fun ls hl => ?_)
                    have loop_251 : ∀ (n_251 : Nat) (b : Nat) (g8 : Nat → Int64) (g9 : Nat → Int64), (b ≤ 40) → (40 < b + n_251) → (bw_oI (bw_D (bw_IF T) (bw_EF T g1)) d b g8) → (bw_oI (bw_D (bw_I e9 T) (bw_EB T g1)) d b g9) → ∀ (H : Heap) (locs : List Loc), va_P (dC, dI) vwCl [(y, .inr (3, [.int tw, .long T, .ref m1, .ref m2, .int 1, .ref s1, .long r_3, .long r_4, .long e9, .ref v1, .ref h1, .long he, .ref d1, .ref e1, .int pl])), (m1, .inl (cI, 40, .inl mn)), (m2, .inl (cI, 160, .inl tg)), (s1, .inl (cL, 40, .inr (.inl g1))), (v1, .inl (cL, 40, .inr (.inl g8))), (h1, .inl (cL, 40, .inr (.inl g9))), (d1, .inl (cL, 40, .inr (.inl g4))), (e1, .inl (cL, 40, .inr (.inl ed)))] H → va_D A [(y, .inr (3, [.int tw, .long T, .ref m1, .ref m2, .int 1, .ref s1, .long r_3, .long r_4, .long e9, .ref v1, .ref h1, .long he, .ref d1, .ref e1, .int pl])), (m1, .inl (cI, 40, .inl mn)), (m2, .inl (cI, 160, .inl tg)), (s1, .inl (cL, 40, .inr (.inl g1))), (v1, .inl (cL, 40, .inr (.inl g8))), (h1, .inl (cL, 40, .inr (.inl g9))), (d1, .inl (cL, 40, .inr (.inl g4))), (e1, .inl (cL, 40, .inr (.inl ed)))] → va_S A s.heap H locs → ∀ (ls : Array Slot), lv_has ls 7 [(0, .ref y), (1, .int (nI d)), (2, .long nn), (4, .long ll), (6, .int (nI b))] → W p l e (headSpec wsM_look ({ frames := 3, cells := 0, slots := 0, locals := 77 } : Room)).room s m ([.ref y] : List Value).toArray below meth c H locs 0 0 (MQ below (va_Qv (S := bw_MS) (fun u => bw_Mk T n t u.1 u.2.1 u.2.2.1 u.2.2.2.1 u.2.2.2.2.1 u.2.2.2.2.2.1 u.2.2.2.2.2.2.1 u.2.2.2.2.2.2.2.1 u.2.2.2.2.2.2.2.2.1 u.2.2.2.2.2.2.2.2.2) (fun (u : bw_MS) t => va_P (dC, dI) vwCl [(y, .inr (3, [.int tw, .long T, .ref m1, .ref m2, .int 1, .ref s1, .long u.2.1, .long u.2.2.1, .long u.2.2.2.1, .ref v1, .ref h1, .long u.2.2.2.2.2.2.1, .ref d1, .ref e1, .int u.2.2.2.2.2.2.2.2.2])), (m1, .inl (cI, 40, .inl mn)), (m2, .inl (cI, 160, .inl tg)), (s1, .inl (cL, 40, .inr (.inl u.1))), (v1, .inl (cL, 40, .inr (.inl u.2.2.2.2.1))), (h1, .inl (cL, 40, .inr (.inl u.2.2.2.2.2.1))), (d1, .inl (cL, 40, .inr (.inl u.2.2.2.2.2.2.2.1))), (e1, .inl (cL, 40, .inr (.inl u.2.2.2.2.2.2.2.2.1)))] t.heap ∧ va_D A [(y, .inr (3, [.int tw, .long T, .ref m1, .ref m2, .int 1, .ref s1, .long u.2.1, .long u.2.2.1, .long u.2.2.2.1, .ref v1, .ref h1, .long u.2.2.2.2.2.2.1, .ref d1, .ref e1, .int u.2.2.2.2.2.2.2.2.2])), (m1, .inl (cI, 40, .inl mn)), (m2, .inl (cI, 160, .inl tg)), (s1, .inl (cL, 40, .inr (.inl u.1))), (v1, .inl (cL, 40, .inr (.inl u.2.2.2.2.1))), (h1, .inl (cL, 40, .inr (.inl u.2.2.2.2.2.1))), (d1, .inl (cL, 40, .inr (.inl u.2.2.2.2.2.2.2.1))), (e1, .inl (cL, 40, .inr (.inl u.2.2.2.2.2.2.2.2.1)))]) A) ([.ref y] : List Value).toArray s 0 0 A) (F0 m 251 ls []) := by
                      intro n_251
                      induction n_251 with
                      | zero => intro b g8 g9 hib hfb hO1 hO2; exfalso; omega
                      | succ n_251 ih_251 =>
                        intro b g8 g9 hib hfb hO1 hO2 H locs hP hD hS ls hl
                        refine lv_iload hx hb dM_look_251 (lv_at hl 4 rfl) ?_
                        refine lv_bipush (v := nI 40) hx hb dM_look_253 (by decide) ?_
                        refine lv_icmp_ge (tgt := 321) hx hb dM_look_255 (by decide) (fun c_12 => ?_) (fun c_12 => ?_)
                        · skip
                          have c_12 : 40 ≤ b := (nI_leI (a := 40) (b := b) (by omega) (by omega)).mp c_12
                          refine lv_iinc (v := nI (d + 1)) (lv' := [(1, .int (nI (d + 1))), (0, .ref y), (2, .long nn), (4, .long ll), (6, .int (nI b))]) hx hb dM_look_321 hl (k := 1) rfl (nI_1 _) (by decide) rfl (fun ls hl => ?_)
                          refine lv_goto (tgt := 177) hx hb dM_look_324 (by decide) ?_
                          exact ih_177 (d + 1) g8 g9 (by omega) (by omega) (bw_oO_s hO1 (by omega)) (bw_oO_s hO2 (by omega)) H locs hP hD hS ls (lv_sub hl [1, 0] rfl)
                        · skip
                          have c_12 : ¬ 40 ≤ b := fun z => c_12 ((nI_leI (a := 40) (b := b) (by omega) (by omega)).mpr z)
                          refine lv_lload_n hx hb dM_look_258 rfl (lv_at hl 2 rfl) ?_
                          refine lv_iload hx hb dM_look_259 (lv_at hl 4 rfl) ?_
                          refine vp_callSi (W.runS (As := [.long nn, .int (nI b)]) (rest := []) ⟨hx, hb, hml, hown, hT⟩ (m_is l nn b (by omega)) (cwS 2 hT g_M_36 rfl rfl rfl (by decide +kernel) ⟨Nat.le_of_ble_eq_true rfl, Nat.le_of_ble_eq_true rfl⟩) preEq rfl rfl hl.1 rfl (lv_room (Nat.le_of_ble_eq_true rfl)) dM_look_261 ⟨Nat.le_of_ble_eq_true rfl, Nat.le_of_ble_eq_true rfl⟩) (fun r_13 hr_13 => ?_)
                          rw [hr_13]; clear hr_13
                          refine lv_if_eq (tgt := 286) hx hb dM_look_264 (by decide) (fun c_14 => ?_) (fun c_14 => ?_)
                          · skip
                            have c_14 := bw_i0.mp c_14
                            refine lv_lload hx hb dM_look_286 (lv_at hl 3 rfl) ?_
                            refine lv_iload hx hb dM_look_288 (lv_at hl 4 rfl) ?_
                            refine vp_callSi (W.runS (As := [.long ll, .int (nI b)]) (rest := []) ⟨hx, hb, hml, hown, hT⟩ (m_is l ll b (by omega)) (cwS 2 hT g_M_36 rfl rfl rfl (by decide +kernel) ⟨Nat.le_of_ble_eq_true rfl, Nat.le_of_ble_eq_true rfl⟩) preEq rfl rfl hl.1 rfl (lv_room (Nat.le_of_ble_eq_true rfl)) dM_look_290 ⟨Nat.le_of_ble_eq_true rfl, Nat.le_of_ble_eq_true rfl⟩) (fun r_15 hr_15 => ?_)
                            rw [hr_15]; clear hr_15
                            refine lv_if_eq (tgt := 315) hx hb dM_look_293 (by decide) (fun c_16 => ?_) (fun c_16 => ?_)
                            · skip
                              have c_16 := bw_i0.mp c_16
                              refine lv_iinc (v := nI (b + 1)) (lv' := [(6, .int (nI (b + 1))), (0, .ref y), (1, .int (nI d)), (2, .long nn), (4, .long ll)]) hx hb dM_look_315 hl (k := 4) rfl (nI_1 _) (by decide) rfl (fun ls hl => ?_)
                              refine lv_goto (tgt := 251) hx hb dM_look_318 (by decide) ?_
                              exact ih_251 (b + 1) g8 g9 (by omega) (by omega) (by first | exact bw_oI_t hO1 (by omega) hnn c_14 | exact bw_oI_f hO1 hnn c_14) (by first | exact bw_oI_t hO2 (by omega) hll c_16 | exact bw_oI_f hO2 hll c_16) H locs hP hD hS ls (lv_sub hl [1, 2, 3, 4, 0] rfl)
                            · skip
                              have c_16 := bw_in0 c_16
                              refine lv_aload_n hx hb dM_look_296 rfl (lv_at hl 0 rfl) ?_
                              refine va_get (D := (dC, dI)) (ci := 3) (v := .ref h1) (C := RM) (T := TM) (N := 15) hx hb hT inM hown hK hP 0 rfl rfl 10 (by decide) (hT _ hw_348) (fun _ h9 => h9) rfl dM_look_297 ?_
                              refine lv_iload hx hb dM_look_300 (lv_at hl 4 rfl) ?_
                              refine lv_aload_n hx hb dM_look_302 rfl (lv_at hl 0 rfl) ?_
                              refine va_get (D := (dC, dI)) (ci := 3) (v := .ref h1) (C := RM) (T := TM) (N := 15) hx hb hT inM hown hK hP 0 rfl rfl 10 (by decide) (hT _ hw_348) (fun _ h9 => h9) rfl dM_look_303 ?_
                              refine lv_iload hx hb dM_look_306 (lv_at hl 4 rfl) ?_
                              refine bw_lald hx hb hK hP 5 1 (k := b) rfl rfl (by omega) (by decide) dM_look_308 ?_
                              refine lv_iload_n hx hb dM_look_309 rfl (lv_at hl 1 rfl) ?_
                              refine vp_callSl (W.runS (As := [.int (nI d)]) (rest := [.long (g9 b), .int (nI b), .ref h1]) ⟨hx, hb, hml, hown, hT⟩ (m_bit l d) (cwS 1 hT g_M_48 rfl rfl rfl (by decide +kernel) ⟨Nat.le_of_ble_eq_true rfl, Nat.le_of_ble_eq_true rfl⟩) preEq rfl rfl hl.1 rfl (lv_room (Nat.le_of_ble_eq_true rfl)) dM_look_310 ⟨Nat.le_of_ble_eq_true rfl, Nat.le_of_ble_eq_true rfl⟩) (fun r_17 hr_17 => ?_)
                              rw [hr_17]; clear hr_17
                              refine lv_lor hx hb dM_look_313 ?_
                              refine bw_last hx hb hK hP hD hS 5 1 (k := b) rfl rfl (by omega) (by decide) dM_look_314 (fun H locs hP hD hS => ?_)
                              have hP : va_P (dC, dI) vwCl [(y, .inr (3, [.int tw, .long T, .ref m1, .ref m2, .int 1, .ref s1, .long r_3, .long r_4, .long e9, .ref v1, .ref h1, .long he, .ref d1, .ref e1, .int pl])), (m1, .inl (cI, 40, .inl mn)), (m2, .inl (cI, 160, .inl tg)), (s1, .inl (cL, 40, .inr (.inl g1))), (v1, .inl (cL, 40, .inr (.inl g8))), (h1, .inl (cL, 40, .inr (.inl (vp_updL g9 b ((g9 b) ||| (bw_b d)))))), (d1, .inl (cL, 40, .inr (.inl g4))), (e1, .inl (cL, 40, .inr (.inl ed)))] H := hP
                              have hD : va_D A [(y, .inr (3, [.int tw, .long T, .ref m1, .ref m2, .int 1, .ref s1, .long r_3, .long r_4, .long e9, .ref v1, .ref h1, .long he, .ref d1, .ref e1, .int pl])), (m1, .inl (cI, 40, .inl mn)), (m2, .inl (cI, 160, .inl tg)), (s1, .inl (cL, 40, .inr (.inl g1))), (v1, .inl (cL, 40, .inr (.inl g8))), (h1, .inl (cL, 40, .inr (.inl (vp_updL g9 b ((g9 b) ||| (bw_b d)))))), (d1, .inl (cL, 40, .inr (.inl g4))), (e1, .inl (cL, 40, .inr (.inl ed)))] := hD
                              refine lv_iinc (v := nI (b + 1)) (lv' := [(6, .int (nI (b + 1))), (0, .ref y), (1, .int (nI d)), (2, .long nn), (4, .long ll)]) hx hb dM_look_315 hl (k := 4) rfl (nI_1 _) (by decide) rfl (fun ls hl => ?_)
                              refine lv_goto (tgt := 251) hx hb dM_look_318 (by decide) ?_
                              exact ih_251 (b + 1) g8 (vp_updL g9 b ((g9 b) ||| (bw_b d))) (by omega) (by omega) (by first | exact bw_oI_t hO1 (by omega) hnn c_14 | exact bw_oI_f hO1 hnn c_14) (by first | exact bw_oI_t hO2 (by omega) hll c_16 | exact bw_oI_f hO2 hll c_16) H locs hP hD hS ls (lv_sub hl [1, 2, 3, 4, 0] rfl)
                          · skip
                            have c_14 := bw_in0 c_14
                            refine lv_aload_n hx hb dM_look_267 rfl (lv_at hl 0 rfl) ?_
                            refine va_get (D := (dC, dI)) (ci := 3) (v := .ref v1) (C := RM) (T := TM) (N := 15) hx hb hT inM hown hK hP 0 rfl rfl 9 (by decide) (hT _ hw_347) (fun _ h9 => h9) rfl dM_look_268 ?_
                            refine lv_iload hx hb dM_look_271 (lv_at hl 4 rfl) ?_
                            refine lv_aload_n hx hb dM_look_273 rfl (lv_at hl 0 rfl) ?_
                            refine va_get (D := (dC, dI)) (ci := 3) (v := .ref v1) (C := RM) (T := TM) (N := 15) hx hb hT inM hown hK hP 0 rfl rfl 9 (by decide) (hT _ hw_347) (fun _ h9 => h9) rfl dM_look_274 ?_
                            refine lv_iload hx hb dM_look_277 (lv_at hl 4 rfl) ?_
                            refine bw_lald hx hb hK hP 4 1 (k := b) rfl rfl (by omega) (by decide) dM_look_279 ?_
                            refine lv_iload_n hx hb dM_look_280 rfl (lv_at hl 1 rfl) ?_
                            refine vp_callSl (W.runS (As := [.int (nI d)]) (rest := [.long (g8 b), .int (nI b), .ref v1]) ⟨hx, hb, hml, hown, hT⟩ (m_bit l d) (cwS 1 hT g_M_48 rfl rfl rfl (by decide +kernel) ⟨Nat.le_of_ble_eq_true rfl, Nat.le_of_ble_eq_true rfl⟩) preEq rfl rfl hl.1 rfl (lv_room (Nat.le_of_ble_eq_true rfl)) dM_look_281 ⟨Nat.le_of_ble_eq_true rfl, Nat.le_of_ble_eq_true rfl⟩) (fun r_18 hr_18 => ?_)
                            rw [hr_18]; clear hr_18
                            refine lv_lor hx hb dM_look_284 ?_
                            refine bw_last hx hb hK hP hD hS 4 1 (k := b) rfl rfl (by omega) (by decide) dM_look_285 (fun H locs hP hD hS => ?_)
                            have hP : va_P (dC, dI) vwCl [(y, .inr (3, [.int tw, .long T, .ref m1, .ref m2, .int 1, .ref s1, .long r_3, .long r_4, .long e9, .ref v1, .ref h1, .long he, .ref d1, .ref e1, .int pl])), (m1, .inl (cI, 40, .inl mn)), (m2, .inl (cI, 160, .inl tg)), (s1, .inl (cL, 40, .inr (.inl g1))), (v1, .inl (cL, 40, .inr (.inl (vp_updL g8 b ((g8 b) ||| (bw_b d)))))), (h1, .inl (cL, 40, .inr (.inl g9))), (d1, .inl (cL, 40, .inr (.inl g4))), (e1, .inl (cL, 40, .inr (.inl ed)))] H := hP
                            have hD : va_D A [(y, .inr (3, [.int tw, .long T, .ref m1, .ref m2, .int 1, .ref s1, .long r_3, .long r_4, .long e9, .ref v1, .ref h1, .long he, .ref d1, .ref e1, .int pl])), (m1, .inl (cI, 40, .inl mn)), (m2, .inl (cI, 160, .inl tg)), (s1, .inl (cL, 40, .inr (.inl g1))), (v1, .inl (cL, 40, .inr (.inl (vp_updL g8 b ((g8 b) ||| (bw_b d)))))), (h1, .inl (cL, 40, .inr (.inl g9))), (d1, .inl (cL, 40, .inr (.inl g4))), (e1, .inl (cL, 40, .inr (.inl ed)))] := hD
                            refine lv_lload hx hb dM_look_286 (lv_at hl 3 rfl) ?_
                            refine lv_iload hx hb dM_look_288 (lv_at hl 4 rfl) ?_
                            refine vp_callSi (W.runS (As := [.long ll, .int (nI b)]) (rest := []) ⟨hx, hb, hml, hown, hT⟩ (m_is l ll b (by omega)) (cwS 2 hT g_M_36 rfl rfl rfl (by decide +kernel) ⟨Nat.le_of_ble_eq_true rfl, Nat.le_of_ble_eq_true rfl⟩) preEq rfl rfl hl.1 rfl (lv_room (Nat.le_of_ble_eq_true rfl)) dM_look_290 ⟨Nat.le_of_ble_eq_true rfl, Nat.le_of_ble_eq_true rfl⟩) (fun r_19 hr_19 => ?_)
                            rw [hr_19]; clear hr_19
                            refine lv_if_eq (tgt := 315) hx hb dM_look_293 (by decide) (fun c_20 => ?_) (fun c_20 => ?_)
                            · skip
                              have c_20 := bw_i0.mp c_20
                              refine lv_iinc (v := nI (b + 1)) (lv' := [(6, .int (nI (b + 1))), (0, .ref y), (1, .int (nI d)), (2, .long nn), (4, .long ll)]) hx hb dM_look_315 hl (k := 4) rfl (nI_1 _) (by decide) rfl (fun ls hl => ?_)
                              refine lv_goto (tgt := 251) hx hb dM_look_318 (by decide) ?_
                              exact ih_251 (b + 1) (vp_updL g8 b ((g8 b) ||| (bw_b d))) g9 (by omega) (by omega) (by first | exact bw_oI_t hO1 (by omega) hnn c_14 | exact bw_oI_f hO1 hnn c_14) (by first | exact bw_oI_t hO2 (by omega) hll c_20 | exact bw_oI_f hO2 hll c_20) H locs hP hD hS ls (lv_sub hl [1, 2, 3, 4, 0] rfl)
                            · skip
                              have c_20 := bw_in0 c_20
                              refine lv_aload_n hx hb dM_look_296 rfl (lv_at hl 0 rfl) ?_
                              refine va_get (D := (dC, dI)) (ci := 3) (v := .ref h1) (C := RM) (T := TM) (N := 15) hx hb hT inM hown hK hP 0 rfl rfl 10 (by decide) (hT _ hw_348) (fun _ h9 => h9) rfl dM_look_297 ?_
                              refine lv_iload hx hb dM_look_300 (lv_at hl 4 rfl) ?_
                              refine lv_aload_n hx hb dM_look_302 rfl (lv_at hl 0 rfl) ?_
                              refine va_get (D := (dC, dI)) (ci := 3) (v := .ref h1) (C := RM) (T := TM) (N := 15) hx hb hT inM hown hK hP 0 rfl rfl 10 (by decide) (hT _ hw_348) (fun _ h9 => h9) rfl dM_look_303 ?_
                              refine lv_iload hx hb dM_look_306 (lv_at hl 4 rfl) ?_
                              refine bw_lald hx hb hK hP 5 1 (k := b) rfl rfl (by omega) (by decide) dM_look_308 ?_
                              refine lv_iload_n hx hb dM_look_309 rfl (lv_at hl 1 rfl) ?_
                              refine vp_callSl (W.runS (As := [.int (nI d)]) (rest := [.long (g9 b), .int (nI b), .ref h1]) ⟨hx, hb, hml, hown, hT⟩ (m_bit l d) (cwS 1 hT g_M_48 rfl rfl rfl (by decide +kernel) ⟨Nat.le_of_ble_eq_true rfl, Nat.le_of_ble_eq_true rfl⟩) preEq rfl rfl hl.1 rfl (lv_room (Nat.le_of_ble_eq_true rfl)) dM_look_310 ⟨Nat.le_of_ble_eq_true rfl, Nat.le_of_ble_eq_true rfl⟩) (fun r_21 hr_21 => ?_)
                              rw [hr_21]; clear hr_21
                              refine lv_lor hx hb dM_look_313 ?_
                              refine bw_last hx hb hK hP hD hS 5 1 (k := b) rfl rfl (by omega) (by decide) dM_look_314 (fun H locs hP hD hS => ?_)
                              have hP : va_P (dC, dI) vwCl [(y, .inr (3, [.int tw, .long T, .ref m1, .ref m2, .int 1, .ref s1, .long r_3, .long r_4, .long e9, .ref v1, .ref h1, .long he, .ref d1, .ref e1, .int pl])), (m1, .inl (cI, 40, .inl mn)), (m2, .inl (cI, 160, .inl tg)), (s1, .inl (cL, 40, .inr (.inl g1))), (v1, .inl (cL, 40, .inr (.inl (vp_updL g8 b ((g8 b) ||| (bw_b d)))))), (h1, .inl (cL, 40, .inr (.inl (vp_updL g9 b ((g9 b) ||| (bw_b d)))))), (d1, .inl (cL, 40, .inr (.inl g4))), (e1, .inl (cL, 40, .inr (.inl ed)))] H := hP
                              have hD : va_D A [(y, .inr (3, [.int tw, .long T, .ref m1, .ref m2, .int 1, .ref s1, .long r_3, .long r_4, .long e9, .ref v1, .ref h1, .long he, .ref d1, .ref e1, .int pl])), (m1, .inl (cI, 40, .inl mn)), (m2, .inl (cI, 160, .inl tg)), (s1, .inl (cL, 40, .inr (.inl g1))), (v1, .inl (cL, 40, .inr (.inl (vp_updL g8 b ((g8 b) ||| (bw_b d)))))), (h1, .inl (cL, 40, .inr (.inl (vp_updL g9 b ((g9 b) ||| (bw_b d)))))), (d1, .inl (cL, 40, .inr (.inl g4))), (e1, .inl (cL, 40, .inr (.inl ed)))] := hD
                              refine lv_iinc (v := nI (b + 1)) (lv' := [(6, .int (nI (b + 1))), (0, .ref y), (1, .int (nI d)), (2, .long nn), (4, .long ll)]) hx hb dM_look_315 hl (k := 4) rfl (nI_1 _) (by decide) rfl (fun ls hl => ?_)
                              refine lv_goto (tgt := 251) hx hb dM_look_318 (by decide) ?_
                              exact ih_251 (b + 1) (vp_updL g8 b ((g8 b) ||| (bw_b d))) (vp_updL g9 b ((g9 b) ||| (bw_b d))) (by omega) (by omega) (by first | exact bw_oI_t hO1 (by omega) hnn c_14 | exact bw_oI_f hO1 hnn c_14) (by first | exact bw_oI_t hO2 (by omega) hll c_20 | exact bw_oI_f hO2 hll c_20) H locs hP hD hS ls (lv_sub hl [1, 2, 3, 4, 0] rfl)
                    exact loop_251 41 0 g6 g7 (by omega) (by omega) (bw_oI_0 hQ1) (bw_oI_0 hQ2) H locs hP hD hS ls (lv_sub hl [3, 4, 2, 1, 0] rfl)
                  · skip
                    have c_11 := bw_in0 c_11
                    refine lv_aload_n hx hb dM_look_224 rfl (lv_at hl 1 rfl) ?_
                    refine va_get (D := (dC, dI)) (ci := 3) (v := .long r_4) (C := RM) (T := TM) (N := 15) hx hb hT inM hown hK hP 0 rfl rfl 7 (by decide) (hT _ hw_345) (fun _ h9 => h9) rfl dM_look_225 ?_
                    refine lv_aload_n hx hb dM_look_228 rfl (lv_at hl 1 rfl) ?_
                    refine lv_aload_n hx hb dM_look_229 rfl (lv_at hl 1 rfl) ?_
                    refine va_get (D := (dC, dI)) (ci := 3) (v := .long e9) (C := RM) (T := TM) (N := 15) hx hb hT inM hown hK hP 0 rfl rfl 8 (by decide) (hT _ hw_346) (fun _ h9 => h9) rfl dM_look_230 ?_
                    refine lv_iload_n hx hb dM_look_233 rfl (lv_at hl 2 rfl) ?_
                    have hPc := hP
                    have hKc := hK
                    refine vp_callSl (W.runV (As := [.long e9, .int (nI d)]) (rest := [.long r_4]) ⟨hx, hb, hml, hown, hT⟩ (m_leadToS l dC dI y m1 m2 s1 v1 h1 d1 e1 cI cL tw T mn tg 1 g1 r_3 r_4 e9 g6 g7 he g4 ed pl e9 d (by omega)) (cwV 2 hT g_M_67 rfl rfl rfl (by decide +kernel) ⟨Nat.le_of_ble_eq_true rfl, Nat.le_of_ble_eq_true rfl⟩) (bw_pV hPc hKc hN (ci := 3) (q0 := 0) rfl rfl) rfl rfl hl.1 rfl (lv_room (Nat.le_of_ble_eq_true rfl)) dM_look_234 ⟨Nat.le_of_ble_eq_true rfl, Nat.le_of_ble_eq_true rfl⟩) (fun r_22 hr_22 => ?_)
                    have hs8 := bw_leadE h40 hms hsb hen (fun d z => by cases z; omega) hr_22
                    refine lv_ldc2 (v := (-1)) hx hb hown (hT _ hw_409) dM_look_237 ?_
                    refine lv_lxor hx hb dM_look_240 ?_
                    refine lv_land hx hb dM_look_241 ?_
                    refine lv_goto (tgt := 246) hx hb dM_look_242 (by decide) ?_
                    refine lv_lstore (lv' := [(4, .long (r_4 &&& (r_22 ^^^ (-1)))), (2, .long nn), (0, .ref y), (1, .int (nI d))]) hx hb dM_look_246 hl (by decide) rfl (fun ls hl => ?_)
                    obtain ⟨ll, e_ll⟩ : ∃ z : Int64, z = r_4 &&& (r_22 ^^^ (-1)) := ⟨_, rfl⟩
                    rw [← e_ll] at hl
                    have hll : ∀ b, bw_m ll b = true ↔ bw_D (bw_I e9 T) (bw_EB T g1) d b := by rw [e_ll]; exact bw_nnT hgd c_11 hs8
                    refine lv_iconst (v := nI 0) hx hb dM_look_248 (by decide) ?_
                    refine lv_istore (lv' := [(6, .int (nI 0)), (4, .long ll), (2, .long nn), (0, .ref y), (1, .int (nI d))]) hx hb dM_look_249 hl (by decide) rfl (fun ls hl => ?_)
                    have loop_251 : ∀ (n_251 : Nat) (b : Nat) (g8 : Nat → Int64) (g9 : Nat → Int64), (b ≤ 40) → (40 < b + n_251) → (bw_oI (bw_D (bw_IF T) (bw_EF T g1)) d b g8) → (bw_oI (bw_D (bw_I e9 T) (bw_EB T g1)) d b g9) → ∀ (H : Heap) (locs : List Loc), va_P (dC, dI) vwCl [(y, .inr (3, [.int tw, .long T, .ref m1, .ref m2, .int 1, .ref s1, .long r_3, .long r_4, .long e9, .ref v1, .ref h1, .long he, .ref d1, .ref e1, .int pl])), (m1, .inl (cI, 40, .inl mn)), (m2, .inl (cI, 160, .inl tg)), (s1, .inl (cL, 40, .inr (.inl g1))), (v1, .inl (cL, 40, .inr (.inl g8))), (h1, .inl (cL, 40, .inr (.inl g9))), (d1, .inl (cL, 40, .inr (.inl g4))), (e1, .inl (cL, 40, .inr (.inl ed)))] H → va_D A [(y, .inr (3, [.int tw, .long T, .ref m1, .ref m2, .int 1, .ref s1, .long r_3, .long r_4, .long e9, .ref v1, .ref h1, .long he, .ref d1, .ref e1, .int pl])), (m1, .inl (cI, 40, .inl mn)), (m2, .inl (cI, 160, .inl tg)), (s1, .inl (cL, 40, .inr (.inl g1))), (v1, .inl (cL, 40, .inr (.inl g8))), (h1, .inl (cL, 40, .inr (.inl g9))), (d1, .inl (cL, 40, .inr (.inl g4))), (e1, .inl (cL, 40, .inr (.inl ed)))] → va_S A s.heap H locs → ∀ (ls : Array Slot), lv_has ls 7 [(0, .ref y), (1, .int (nI d)), (2, .long nn), (4, .long ll), (6, .int (nI b))] → W p l e (headSpec wsM_look ({ frames := 3, cells := 0, slots := 0, locals := 77 } : Room)).room s m ([.ref y] : List Value).toArray below meth c H locs 0 0 (MQ below (va_Qv (S := bw_MS) (fun u => bw_Mk T n t u.1 u.2.1 u.2.2.1 u.2.2.2.1 u.2.2.2.2.1 u.2.2.2.2.2.1 u.2.2.2.2.2.2.1 u.2.2.2.2.2.2.2.1 u.2.2.2.2.2.2.2.2.1 u.2.2.2.2.2.2.2.2.2) (fun (u : bw_MS) t => va_P (dC, dI) vwCl [(y, .inr (3, [.int tw, .long T, .ref m1, .ref m2, .int 1, .ref s1, .long u.2.1, .long u.2.2.1, .long u.2.2.2.1, .ref v1, .ref h1, .long u.2.2.2.2.2.2.1, .ref d1, .ref e1, .int u.2.2.2.2.2.2.2.2.2])), (m1, .inl (cI, 40, .inl mn)), (m2, .inl (cI, 160, .inl tg)), (s1, .inl (cL, 40, .inr (.inl u.1))), (v1, .inl (cL, 40, .inr (.inl u.2.2.2.2.1))), (h1, .inl (cL, 40, .inr (.inl u.2.2.2.2.2.1))), (d1, .inl (cL, 40, .inr (.inl u.2.2.2.2.2.2.2.1))), (e1, .inl (cL, 40, .inr (.inl u.2.2.2.2.2.2.2.2.1)))] t.heap ∧ va_D A [(y, .inr (3, [.int tw, .long T, .ref m1, .ref m2, .int 1, .ref s1, .long u.2.1, .long u.2.2.1, .long u.2.2.2.1, .ref v1, .ref h1, .long u.2.2.2.2.2.2.1, .ref d1, .ref e1, .int u.2.2.2.2.2.2.2.2.2])), (m1, .inl (cI, 40, .inl mn)), (m2, .inl (cI, 160, .inl tg)), (s1, .inl (cL, 40, .inr (.inl u.1))), (v1, .inl (cL, 40, .inr (.inl u.2.2.2.2.1))), (h1, .inl (cL, 40, .inr (.inl u.2.2.2.2.2.1))), (d1, .inl (cL, 40, .inr (.inl u.2.2.2.2.2.2.2.1))), (e1, .inl (cL, 40, .inr (.inl u.2.2.2.2.2.2.2.2.1)))]) A) ([.ref y] : List Value).toArray s 0 0 A) (F0 m 251 ls []) := by
                      intro n_251
                      induction n_251 with
                      | zero => intro b g8 g9 hib hfb hO1 hO2; exfalso; omega
                      | succ n_251 ih_251 =>
                        intro b g8 g9 hib hfb hO1 hO2 H locs hP hD hS ls hl
                        refine lv_iload hx hb dM_look_251 (lv_at hl 4 rfl) ?_
                        refine lv_bipush (v := nI 40) hx hb dM_look_253 (by decide) ?_
                        refine lv_icmp_ge (tgt := 321) hx hb dM_look_255 (by decide) (fun c_23 => ?_) (fun c_23 => ?_)
                        · skip
                          have c_23 : 40 ≤ b := (nI_leI (a := 40) (b := b) (by omega) (by omega)).mp c_23
                          refine lv_iinc (v := nI (d + 1)) (lv' := [(1, .int (nI (d + 1))), (0, .ref y), (2, .long nn), (4, .long ll), (6, .int (nI b))]) hx hb dM_look_321 hl (k := 1) rfl (nI_1 _) (by decide) rfl (fun ls hl => ?_)
                          refine lv_goto (tgt := 177) hx hb dM_look_324 (by decide) ?_
                          exact ih_177 (d + 1) g8 g9 (by omega) (by omega) (bw_oO_s hO1 (by omega)) (bw_oO_s hO2 (by omega)) H locs hP hD hS ls (lv_sub hl [1, 0] rfl)
                        · skip
                          have c_23 : ¬ 40 ≤ b := fun z => c_23 ((nI_leI (a := 40) (b := b) (by omega) (by omega)).mpr z)
                          refine lv_lload_n hx hb dM_look_258 rfl (lv_at hl 2 rfl) ?_
                          refine lv_iload hx hb dM_look_259 (lv_at hl 4 rfl) ?_
                          refine vp_callSi (W.runS (As := [.long nn, .int (nI b)]) (rest := []) ⟨hx, hb, hml, hown, hT⟩ (m_is l nn b (by omega)) (cwS 2 hT g_M_36 rfl rfl rfl (by decide +kernel) ⟨Nat.le_of_ble_eq_true rfl, Nat.le_of_ble_eq_true rfl⟩) preEq rfl rfl hl.1 rfl (lv_room (Nat.le_of_ble_eq_true rfl)) dM_look_261 ⟨Nat.le_of_ble_eq_true rfl, Nat.le_of_ble_eq_true rfl⟩) (fun r_24 hr_24 => ?_)
                          rw [hr_24]; clear hr_24
                          refine lv_if_eq (tgt := 286) hx hb dM_look_264 (by decide) (fun c_25 => ?_) (fun c_25 => ?_)
                          · skip
                            have c_25 := bw_i0.mp c_25
                            refine lv_lload hx hb dM_look_286 (lv_at hl 3 rfl) ?_
                            refine lv_iload hx hb dM_look_288 (lv_at hl 4 rfl) ?_
                            refine vp_callSi (W.runS (As := [.long ll, .int (nI b)]) (rest := []) ⟨hx, hb, hml, hown, hT⟩ (m_is l ll b (by omega)) (cwS 2 hT g_M_36 rfl rfl rfl (by decide +kernel) ⟨Nat.le_of_ble_eq_true rfl, Nat.le_of_ble_eq_true rfl⟩) preEq rfl rfl hl.1 rfl (lv_room (Nat.le_of_ble_eq_true rfl)) dM_look_290 ⟨Nat.le_of_ble_eq_true rfl, Nat.le_of_ble_eq_true rfl⟩) (fun r_26 hr_26 => ?_)
                            rw [hr_26]; clear hr_26
                            refine lv_if_eq (tgt := 315) hx hb dM_look_293 (by decide) (fun c_27 => ?_) (fun c_27 => ?_)
                            · skip
                              have c_27 := bw_i0.mp c_27
                              refine lv_iinc (v := nI (b + 1)) (lv' := [(6, .int (nI (b + 1))), (0, .ref y), (1, .int (nI d)), (2, .long nn), (4, .long ll)]) hx hb dM_look_315 hl (k := 4) rfl (nI_1 _) (by decide) rfl (fun ls hl => ?_)
                              refine lv_goto (tgt := 251) hx hb dM_look_318 (by decide) ?_
                              exact ih_251 (b + 1) g8 g9 (by omega) (by omega) (by first | exact bw_oI_t hO1 (by omega) hnn c_25 | exact bw_oI_f hO1 hnn c_25) (by first | exact bw_oI_t hO2 (by omega) hll c_27 | exact bw_oI_f hO2 hll c_27) H locs hP hD hS ls (lv_sub hl [1, 2, 3, 4, 0] rfl)
                            · skip
                              have c_27 := bw_in0 c_27
                              refine lv_aload_n hx hb dM_look_296 rfl (lv_at hl 0 rfl) ?_
                              refine va_get (D := (dC, dI)) (ci := 3) (v := .ref h1) (C := RM) (T := TM) (N := 15) hx hb hT inM hown hK hP 0 rfl rfl 10 (by decide) (hT _ hw_348) (fun _ h9 => h9) rfl dM_look_297 ?_
                              refine lv_iload hx hb dM_look_300 (lv_at hl 4 rfl) ?_
                              refine lv_aload_n hx hb dM_look_302 rfl (lv_at hl 0 rfl) ?_
                              refine va_get (D := (dC, dI)) (ci := 3) (v := .ref h1) (C := RM) (T := TM) (N := 15) hx hb hT inM hown hK hP 0 rfl rfl 10 (by decide) (hT _ hw_348) (fun _ h9 => h9) rfl dM_look_303 ?_
                              refine lv_iload hx hb dM_look_306 (lv_at hl 4 rfl) ?_
                              refine bw_lald hx hb hK hP 5 1 (k := b) rfl rfl (by omega) (by decide) dM_look_308 ?_
                              refine lv_iload_n hx hb dM_look_309 rfl (lv_at hl 1 rfl) ?_
                              refine vp_callSl (W.runS (As := [.int (nI d)]) (rest := [.long (g9 b), .int (nI b), .ref h1]) ⟨hx, hb, hml, hown, hT⟩ (m_bit l d) (cwS 1 hT g_M_48 rfl rfl rfl (by decide +kernel) ⟨Nat.le_of_ble_eq_true rfl, Nat.le_of_ble_eq_true rfl⟩) preEq rfl rfl hl.1 rfl (lv_room (Nat.le_of_ble_eq_true rfl)) dM_look_310 ⟨Nat.le_of_ble_eq_true rfl, Nat.le_of_ble_eq_true rfl⟩) (fun r_28 hr_28 => ?_)
                              rw [hr_28]; clear hr_28
                              refine lv_lor hx hb dM_look_313 ?_
                              refine bw_last hx hb hK hP hD hS 5 1 (k := b) rfl rfl (by omega) (by decide) dM_look_314 (fun H locs hP hD hS => ?_)
                              have hP : va_P (dC, dI) vwCl [(y, .inr (3, [.int tw, .long T, .ref m1, .ref m2, .int 1, .ref s1, .long r_3, .long r_4, .long e9, .ref v1, .ref h1, .long he, .ref d1, .ref e1, .int pl])), (m1, .inl (cI, 40, .inl mn)), (m2, .inl (cI, 160, .inl tg)), (s1, .inl (cL, 40, .inr (.inl g1))), (v1, .inl (cL, 40, .inr (.inl g8))), (h1, .inl (cL, 40, .inr (.inl (vp_updL g9 b ((g9 b) ||| (bw_b d)))))), (d1, .inl (cL, 40, .inr (.inl g4))), (e1, .inl (cL, 40, .inr (.inl ed)))] H := hP
                              have hD : va_D A [(y, .inr (3, [.int tw, .long T, .ref m1, .ref m2, .int 1, .ref s1, .long r_3, .long r_4, .long e9, .ref v1, .ref h1, .long he, .ref d1, .ref e1, .int pl])), (m1, .inl (cI, 40, .inl mn)), (m2, .inl (cI, 160, .inl tg)), (s1, .inl (cL, 40, .inr (.inl g1))), (v1, .inl (cL, 40, .inr (.inl g8))), (h1, .inl (cL, 40, .inr (.inl (vp_updL g9 b ((g9 b) ||| (bw_b d)))))), (d1, .inl (cL, 40, .inr (.inl g4))), (e1, .inl (cL, 40, .inr (.inl ed)))] := hD
                              refine lv_iinc (v := nI (b + 1)) (lv' := [(6, .int (nI (b + 1))), (0, .ref y), (1, .int (nI d)), (2, .long nn), (4, .long ll)]) hx hb dM_look_315 hl (k := 4) rfl (nI_1 _) (by decide) rfl (fun ls hl => ?_)
                              refine lv_goto (tgt := 251) hx hb dM_look_318 (by decide) ?_
                              exact ih_251 (b + 1) g8 (vp_updL g9 b ((g9 b) ||| (bw_b d))) (by omega) (by omega) (by first | exact bw_oI_t hO1 (by omega) hnn c_25 | exact bw_oI_f hO1 hnn c_25) (by first | exact bw_oI_t hO2 (by omega) hll c_27 | exact bw_oI_f hO2 hll c_27) H locs hP hD hS ls (lv_sub hl [1, 2, 3, 4, 0] rfl)
                          · skip
                            have c_25 := bw_in0 c_25
                            refine lv_aload_n hx hb dM_look_267 rfl (lv_at hl 0 rfl) ?_
                            refine va_get (D := (dC, dI)) (ci := 3) (v := .ref v1) (C := RM) (T := TM) (N := 15) hx hb hT inM hown hK hP 0 rfl rfl 9 (by decide) (hT _ hw_347) (fun _ h9 => h9) rfl dM_look_268 ?_
                            refine lv_iload hx hb dM_look_271 (lv_at hl 4 rfl) ?_
                            refine lv_aload_n hx hb dM_look_273 rfl (lv_at hl 0 rfl) ?_
                            refine va_get (D := (dC, dI)) (ci := 3) (v := .ref v1) (C := RM) (T := TM) (N := 15) hx hb hT inM hown hK hP 0 rfl rfl 9 (by decide) (hT _ hw_347) (fun _ h9 => h9) rfl dM_look_274 ?_
                            refine lv_iload hx hb dM_look_277 (lv_at hl 4 rfl) ?_
                            refine bw_lald hx hb hK hP 4 1 (k := b) rfl rfl (by omega) (by decide) dM_look_279 ?_
                            refine lv_iload_n hx hb dM_look_280 rfl (lv_at hl 1 rfl) ?_
                            refine vp_callSl (W.runS (As := [.int (nI d)]) (rest := [.long (g8 b), .int (nI b), .ref v1]) ⟨hx, hb, hml, hown, hT⟩ (m_bit l d) (cwS 1 hT g_M_48 rfl rfl rfl (by decide +kernel) ⟨Nat.le_of_ble_eq_true rfl, Nat.le_of_ble_eq_true rfl⟩) preEq rfl rfl hl.1 rfl (lv_room (Nat.le_of_ble_eq_true rfl)) dM_look_281 ⟨Nat.le_of_ble_eq_true rfl, Nat.le_of_ble_eq_true rfl⟩) (fun r_29 hr_29 => ?_)
                            rw [hr_29]; clear hr_29
                            refine lv_lor hx hb dM_look_284 ?_
                            refine bw_last hx hb hK hP hD hS 4 1 (k := b) rfl rfl (by omega) (by decide) dM_look_285 (fun H locs hP hD hS => ?_)
                            have hP : va_P (dC, dI) vwCl [(y, .inr (3, [.int tw, .long T, .ref m1, .ref m2, .int 1, .ref s1, .long r_3, .long r_4, .long e9, .ref v1, .ref h1, .long he, .ref d1, .ref e1, .int pl])), (m1, .inl (cI, 40, .inl mn)), (m2, .inl (cI, 160, .inl tg)), (s1, .inl (cL, 40, .inr (.inl g1))), (v1, .inl (cL, 40, .inr (.inl (vp_updL g8 b ((g8 b) ||| (bw_b d)))))), (h1, .inl (cL, 40, .inr (.inl g9))), (d1, .inl (cL, 40, .inr (.inl g4))), (e1, .inl (cL, 40, .inr (.inl ed)))] H := hP
                            have hD : va_D A [(y, .inr (3, [.int tw, .long T, .ref m1, .ref m2, .int 1, .ref s1, .long r_3, .long r_4, .long e9, .ref v1, .ref h1, .long he, .ref d1, .ref e1, .int pl])), (m1, .inl (cI, 40, .inl mn)), (m2, .inl (cI, 160, .inl tg)), (s1, .inl (cL, 40, .inr (.inl g1))), (v1, .inl (cL, 40, .inr (.inl (vp_updL g8 b ((g8 b) ||| (bw_b d)))))), (h1, .inl (cL, 40, .inr (.inl g9))), (d1, .inl (cL, 40, .inr (.inl g4))), (e1, .inl (cL, 40, .inr (.inl ed)))] := hD
                            refine lv_lload hx hb dM_look_286 (lv_at hl 3 rfl) ?_
                            refine lv_iload hx hb dM_look_288 (lv_at hl 4 rfl) ?_
                            refine vp_callSi (W.runS (As := [.long ll, .int (nI b)]) (rest := []) ⟨hx, hb, hml, hown, hT⟩ (m_is l ll b (by omega)) (cwS 2 hT g_M_36 rfl rfl rfl (by decide +kernel) ⟨Nat.le_of_ble_eq_true rfl, Nat.le_of_ble_eq_true rfl⟩) preEq rfl rfl hl.1 rfl (lv_room (Nat.le_of_ble_eq_true rfl)) dM_look_290 ⟨Nat.le_of_ble_eq_true rfl, Nat.le_of_ble_eq_true rfl⟩) (fun r_30 hr_30 => ?_)
                            rw [hr_30]; clear hr_30
                            refine lv_if_eq (tgt := 315) hx hb dM_look_293 (by decide) (fun c_31 => ?_) (fun c_31 => ?_)
                            · skip
                              have c_31 := bw_i0.mp c_31
                              refine lv_iinc (v := nI (b + 1)) (lv' := [(6, .int (nI (b + 1))), (0, .ref y), (1, .int (nI d)), (2, .long nn), (4, .long ll)]) hx hb dM_look_315 hl (k := 4) rfl (nI_1 _) (by decide) rfl (fun ls hl => ?_)
                              refine lv_goto (tgt := 251) hx hb dM_look_318 (by decide) ?_
                              exact ih_251 (b + 1) (vp_updL g8 b ((g8 b) ||| (bw_b d))) g9 (by omega) (by omega) (by first | exact bw_oI_t hO1 (by omega) hnn c_25 | exact bw_oI_f hO1 hnn c_25) (by first | exact bw_oI_t hO2 (by omega) hll c_31 | exact bw_oI_f hO2 hll c_31) H locs hP hD hS ls (lv_sub hl [1, 2, 3, 4, 0] rfl)
                            · skip
                              have c_31 := bw_in0 c_31
                              refine lv_aload_n hx hb dM_look_296 rfl (lv_at hl 0 rfl) ?_
                              refine va_get (D := (dC, dI)) (ci := 3) (v := .ref h1) (C := RM) (T := TM) (N := 15) hx hb hT inM hown hK hP 0 rfl rfl 10 (by decide) (hT _ hw_348) (fun _ h9 => h9) rfl dM_look_297 ?_
                              refine lv_iload hx hb dM_look_300 (lv_at hl 4 rfl) ?_
                              refine lv_aload_n hx hb dM_look_302 rfl (lv_at hl 0 rfl) ?_
                              refine va_get (D := (dC, dI)) (ci := 3) (v := .ref h1) (C := RM) (T := TM) (N := 15) hx hb hT inM hown hK hP 0 rfl rfl 10 (by decide) (hT _ hw_348) (fun _ h9 => h9) rfl dM_look_303 ?_
                              refine lv_iload hx hb dM_look_306 (lv_at hl 4 rfl) ?_
                              refine bw_lald hx hb hK hP 5 1 (k := b) rfl rfl (by omega) (by decide) dM_look_308 ?_
                              refine lv_iload_n hx hb dM_look_309 rfl (lv_at hl 1 rfl) ?_
                              refine vp_callSl (W.runS (As := [.int (nI d)]) (rest := [.long (g9 b), .int (nI b), .ref h1]) ⟨hx, hb, hml, hown, hT⟩ (m_bit l d) (cwS 1 hT g_M_48 rfl rfl rfl (by decide +kernel) ⟨Nat.le_of_ble_eq_true rfl, Nat.le_of_ble_eq_true rfl⟩) preEq rfl rfl hl.1 rfl (lv_room (Nat.le_of_ble_eq_true rfl)) dM_look_310 ⟨Nat.le_of_ble_eq_true rfl, Nat.le_of_ble_eq_true rfl⟩) (fun r_32 hr_32 => ?_)
                              rw [hr_32]; clear hr_32
                              refine lv_lor hx hb dM_look_313 ?_
                              refine bw_last hx hb hK hP hD hS 5 1 (k := b) rfl rfl (by omega) (by decide) dM_look_314 (fun H locs hP hD hS => ?_)
                              have hP : va_P (dC, dI) vwCl [(y, .inr (3, [.int tw, .long T, .ref m1, .ref m2, .int 1, .ref s1, .long r_3, .long r_4, .long e9, .ref v1, .ref h1, .long he, .ref d1, .ref e1, .int pl])), (m1, .inl (cI, 40, .inl mn)), (m2, .inl (cI, 160, .inl tg)), (s1, .inl (cL, 40, .inr (.inl g1))), (v1, .inl (cL, 40, .inr (.inl (vp_updL g8 b ((g8 b) ||| (bw_b d)))))), (h1, .inl (cL, 40, .inr (.inl (vp_updL g9 b ((g9 b) ||| (bw_b d)))))), (d1, .inl (cL, 40, .inr (.inl g4))), (e1, .inl (cL, 40, .inr (.inl ed)))] H := hP
                              have hD : va_D A [(y, .inr (3, [.int tw, .long T, .ref m1, .ref m2, .int 1, .ref s1, .long r_3, .long r_4, .long e9, .ref v1, .ref h1, .long he, .ref d1, .ref e1, .int pl])), (m1, .inl (cI, 40, .inl mn)), (m2, .inl (cI, 160, .inl tg)), (s1, .inl (cL, 40, .inr (.inl g1))), (v1, .inl (cL, 40, .inr (.inl (vp_updL g8 b ((g8 b) ||| (bw_b d)))))), (h1, .inl (cL, 40, .inr (.inl (vp_updL g9 b ((g9 b) ||| (bw_b d)))))), (d1, .inl (cL, 40, .inr (.inl g4))), (e1, .inl (cL, 40, .inr (.inl ed)))] := hD
                              refine lv_iinc (v := nI (b + 1)) (lv' := [(6, .int (nI (b + 1))), (0, .ref y), (1, .int (nI d)), (2, .long nn), (4, .long ll)]) hx hb dM_look_315 hl (k := 4) rfl (nI_1 _) (by decide) rfl (fun ls hl => ?_)
                              refine lv_goto (tgt := 251) hx hb dM_look_318 (by decide) ?_
                              exact ih_251 (b + 1) (vp_updL g8 b ((g8 b) ||| (bw_b d))) (vp_updL g9 b ((g9 b) ||| (bw_b d))) (by omega) (by omega) (by first | exact bw_oI_t hO1 (by omega) hnn c_25 | exact bw_oI_f hO1 hnn c_25) (by first | exact bw_oI_t hO2 (by omega) hll c_31 | exact bw_oI_f hO2 hll c_31) H locs hP hD hS ls (lv_sub hl [1, 2, 3, 4, 0] rfl)
                    exact loop_251 41 0 g6 g7 (by omega) (by omega) (bw_oI_0 hQ1) (bw_oI_0 hQ2) H locs hP hD hS ls (lv_sub hl [3, 4, 2, 1, 0] rfl)
                · skip
                  have c_9 := bw_in0 c_9
                  refine lv_aload_n hx hb dM_look_194 rfl (lv_at hl 0 rfl) ?_
                  refine va_get (D := (dC, dI)) (ci := 3) (v := .long r_3) (C := RM) (T := TM) (N := 15) hx hb hT inM hown hK hP 0 rfl rfl 6 (by decide) (hT _ hw_344) (fun _ h9 => h9) rfl dM_look_195 ?_
                  refine lv_aload_n hx hb dM_look_198 rfl (lv_at hl 0 rfl) ?_
                  refine lv_iload_n hx hb dM_look_199 rfl (lv_at hl 1 rfl) ?_
                  have hPc := hP
                  have hKc := hK
                  refine vp_callSl (W.runV (As := [.int (nI d)]) (rest := [.long r_3]) ⟨hx, hb, hml, hown, hT⟩ (m_comeToS l dC dI y m1 m2 s1 v1 h1 d1 e1 cI cL tw T mn tg 1 g1 r_3 r_4 e9 g6 g7 he g4 ed pl d (by omega)) (cwV 1 hT g_M_61 rfl rfl rfl (by decide +kernel) ⟨Nat.le_of_ble_eq_true rfl, Nat.le_of_ble_eq_true rfl⟩) (bw_pV hPc hKc hN (ci := 3) (q0 := 0) rfl rfl) rfl rfl hl.1 rfl (lv_room (Nat.le_of_ble_eq_true rfl)) dM_look_200 ⟨Nat.le_of_ble_eq_true rfl, Nat.le_of_ble_eq_true rfl⟩) (fun r_33 hr_33 => ?_)
                  have hs9 := bw_come h40 hms (fun d z => by cases z; omega) hr_33
                  refine lv_ldc2 (v := (-1)) hx hb hown (hT _ hw_409) dM_look_203 ?_
                  refine lv_lxor hx hb dM_look_206 ?_
                  refine lv_land hx hb dM_look_207 ?_
                  refine lv_goto (tgt := 212) hx hb dM_look_208 (by decide) ?_
                  refine lv_lstore_n (lv' := [(2, .long (r_3 &&& (r_33 ^^^ (-1)))), (0, .ref y), (1, .int (nI d))]) hx hb dM_look_212 rfl hl (by decide) rfl (fun ls hl => ?_)
                  obtain ⟨nn, e_nn⟩ : ∃ z : Int64, z = r_3 &&& (r_33 ^^^ (-1)) := ⟨_, rfl⟩
                  rw [← e_nn] at hl
                  have hnn : ∀ b, bw_m nn b = true ↔ bw_D (bw_IF T) (bw_EF T g1) d b := by rw [e_nn]; exact bw_nnT hre c_9 hs9
                  refine lv_aload_n hx hb dM_look_213 rfl (lv_at hl 1 rfl) ?_
                  refine va_get (D := (dC, dI)) (ci := 3) (v := .long r_4) (C := RM) (T := TM) (N := 15) hx hb hT inM hown hK hP 0 rfl rfl 7 (by decide) (hT _ hw_345) (fun _ h9 => h9) rfl dM_look_214 ?_
                  refine lv_iload_n hx hb dM_look_217 rfl (lv_at hl 2 rfl) ?_
                  refine vp_callSi (W.runS (As := [.long r_4, .int (nI d)]) (rest := []) ⟨hx, hb, hml, hown, hT⟩ (m_is l r_4 d (by omega)) (cwS 2 hT g_M_36 rfl rfl rfl (by decide +kernel) ⟨Nat.le_of_ble_eq_true rfl, Nat.le_of_ble_eq_true rfl⟩) preEq rfl rfl hl.1 rfl (lv_room (Nat.le_of_ble_eq_true rfl)) dM_look_218 ⟨Nat.le_of_ble_eq_true rfl, Nat.le_of_ble_eq_true rfl⟩) (fun r_34 hr_34 => ?_)
                  rw [hr_34]; clear hr_34
                  refine lv_if_eq (tgt := 245) hx hb dM_look_221 (by decide) (fun c_35 => ?_) (fun c_35 => ?_)
                  · skip
                    have c_35 := bw_i0.mp c_35
                    refine lv_lconst (v := 0) hx hb dM_look_245 (by decide) ?_
                    refine lv_lstore (lv' := [(4, .long 0), (2, .long nn), (0, .ref y), (1, .int (nI d))]) hx hb dM_look_246 hl (by decide) rfl (fun ls hl => ?_)
                    obtain ⟨ll, e_ll⟩ : ∃ z : Int64, z = 0 := ⟨_, rfl⟩
                    have hl : lv_has ls 7 [(4, .long ll), (2, .long nn), (0, .ref y), (1, .int (nI d))] := by rw [e_ll]; exact hl
                    have hll : ∀ b, bw_m ll b = true ↔ bw_D (bw_I e9 T) (bw_EB T g1) d b := by rw [e_ll]; exact bw_nn0 hgd c_35
                    refine lv_iconst (v := nI 0) hx hb dM_look_248 (by decide) ?_
                    refine lv_istore (lv' := [(6, .int (nI 0)), (4, .long ll), (2, .long nn), (0, .ref y), (1, .int (nI d))]) hx hb dM_look_249 hl (by decide) rfl (fun ls hl => ?_)
                    have loop_251 : ∀ (n_251 : Nat) (b : Nat) (g8 : Nat → Int64) (g9 : Nat → Int64), (b ≤ 40) → (40 < b + n_251) → (bw_oI (bw_D (bw_IF T) (bw_EF T g1)) d b g8) → (bw_oI (bw_D (bw_I e9 T) (bw_EB T g1)) d b g9) → ∀ (H : Heap) (locs : List Loc), va_P (dC, dI) vwCl [(y, .inr (3, [.int tw, .long T, .ref m1, .ref m2, .int 1, .ref s1, .long r_3, .long r_4, .long e9, .ref v1, .ref h1, .long he, .ref d1, .ref e1, .int pl])), (m1, .inl (cI, 40, .inl mn)), (m2, .inl (cI, 160, .inl tg)), (s1, .inl (cL, 40, .inr (.inl g1))), (v1, .inl (cL, 40, .inr (.inl g8))), (h1, .inl (cL, 40, .inr (.inl g9))), (d1, .inl (cL, 40, .inr (.inl g4))), (e1, .inl (cL, 40, .inr (.inl ed)))] H → va_D A [(y, .inr (3, [.int tw, .long T, .ref m1, .ref m2, .int 1, .ref s1, .long r_3, .long r_4, .long e9, .ref v1, .ref h1, .long he, .ref d1, .ref e1, .int pl])), (m1, .inl (cI, 40, .inl mn)), (m2, .inl (cI, 160, .inl tg)), (s1, .inl (cL, 40, .inr (.inl g1))), (v1, .inl (cL, 40, .inr (.inl g8))), (h1, .inl (cL, 40, .inr (.inl g9))), (d1, .inl (cL, 40, .inr (.inl g4))), (e1, .inl (cL, 40, .inr (.inl ed)))] → va_S A s.heap H locs → ∀ (ls : Array Slot), lv_has ls 7 [(0, .ref y), (1, .int (nI d)), (2, .long nn), (4, .long ll), (6, .int (nI b))] → W p l e (headSpec wsM_look ({ frames := 3, cells := 0, slots := 0, locals := 77 } : Room)).room s m ([.ref y] : List Value).toArray below meth c H locs 0 0 (MQ below (va_Qv (S := bw_MS) (fun u => bw_Mk T n t u.1 u.2.1 u.2.2.1 u.2.2.2.1 u.2.2.2.2.1 u.2.2.2.2.2.1 u.2.2.2.2.2.2.1 u.2.2.2.2.2.2.2.1 u.2.2.2.2.2.2.2.2.1 u.2.2.2.2.2.2.2.2.2) (fun (u : bw_MS) t => va_P (dC, dI) vwCl [(y, .inr (3, [.int tw, .long T, .ref m1, .ref m2, .int 1, .ref s1, .long u.2.1, .long u.2.2.1, .long u.2.2.2.1, .ref v1, .ref h1, .long u.2.2.2.2.2.2.1, .ref d1, .ref e1, .int u.2.2.2.2.2.2.2.2.2])), (m1, .inl (cI, 40, .inl mn)), (m2, .inl (cI, 160, .inl tg)), (s1, .inl (cL, 40, .inr (.inl u.1))), (v1, .inl (cL, 40, .inr (.inl u.2.2.2.2.1))), (h1, .inl (cL, 40, .inr (.inl u.2.2.2.2.2.1))), (d1, .inl (cL, 40, .inr (.inl u.2.2.2.2.2.2.2.1))), (e1, .inl (cL, 40, .inr (.inl u.2.2.2.2.2.2.2.2.1)))] t.heap ∧ va_D A [(y, .inr (3, [.int tw, .long T, .ref m1, .ref m2, .int 1, .ref s1, .long u.2.1, .long u.2.2.1, .long u.2.2.2.1, .ref v1, .ref h1, .long u.2.2.2.2.2.2.1, .ref d1, .ref e1, .int u.2.2.2.2.2.2.2.2.2])), (m1, .inl (cI, 40, .inl mn)), (m2, .inl (cI, 160, .inl tg)), (s1, .inl (cL, 40, .inr (.inl u.1))), (v1, .inl (cL, 40, .inr (.inl u.2.2.2.2.1))), (h1, .inl (cL, 40, .inr (.inl u.2.2.2.2.2.1))), (d1, .inl (cL, 40, .inr (.inl u.2.2.2.2.2.2.2.1))), (e1, .inl (cL, 40, .inr (.inl u.2.2.2.2.2.2.2.2.1)))]) A) ([.ref y] : List Value).toArray s 0 0 A) (F0 m 251 ls []) := by
                      intro n_251
                      induction n_251 with
                      | zero => intro b g8 g9 hib hfb hO1 hO2; exfalso; omega
                      | succ n_251 ih_251 =>
                        intro b g8 g9 hib hfb hO1 hO2 H locs hP hD hS ls hl
                        refine lv_iload hx hb dM_look_251 (lv_at hl 4 rfl) ?_
                        refine lv_bipush (v := nI 40) hx hb dM_look_253 (by decide) ?_
                        refine lv_icmp_ge (tgt := 321) hx hb dM_look_255 (by decide) (fun c_36 => ?_) (fun c_36 => ?_)
                        · skip
                          have c_36 : 40 ≤ b := (nI_leI (a := 40) (b := b) (by omega) (by omega)).mp c_36
                          refine lv_iinc (v := nI (d + 1)) (lv' := [(1, .int (nI (d + 1))), (0, .ref y), (2, .long nn), (4, .long ll), (6, .int (nI b))]) hx hb dM_look_321 hl (k := 1) rfl (nI_1 _) (by decide) rfl (fun ls hl => ?_)
                          refine lv_goto (tgt := 177) hx hb dM_look_324 (by decide) ?_
                          exact ih_177 (d + 1) g8 g9 (by omega) (by omega) (bw_oO_s hO1 (by omega)) (bw_oO_s hO2 (by omega)) H locs hP hD hS ls (lv_sub hl [1, 0] rfl)
                        · skip
                          have c_36 : ¬ 40 ≤ b := fun z => c_36 ((nI_leI (a := 40) (b := b) (by omega) (by omega)).mpr z)
                          refine lv_lload_n hx hb dM_look_258 rfl (lv_at hl 2 rfl) ?_
                          refine lv_iload hx hb dM_look_259 (lv_at hl 4 rfl) ?_
                          refine vp_callSi (W.runS (As := [.long nn, .int (nI b)]) (rest := []) ⟨hx, hb, hml, hown, hT⟩ (m_is l nn b (by omega)) (cwS 2 hT g_M_36 rfl rfl rfl (by decide +kernel) ⟨Nat.le_of_ble_eq_true rfl, Nat.le_of_ble_eq_true rfl⟩) preEq rfl rfl hl.1 rfl (lv_room (Nat.le_of_ble_eq_true rfl)) dM_look_261 ⟨Nat.le_of_ble_eq_true rfl, Nat.le_of_ble_eq_true rfl⟩) (fun r_37 hr_37 => ?_)
                          rw [hr_37]; clear hr_37
                          refine lv_if_eq (tgt := 286) hx hb dM_look_264 (by decide) (fun c_38 => ?_) (fun c_38 => ?_)
                          · skip
                            have c_38 := bw_i0.mp c_38
                            refine lv_lload hx hb dM_look_286 (lv_at hl 3 rfl) ?_
                            refine lv_iload hx hb dM_look_288 (lv_at hl 4 rfl) ?_
                            refine vp_callSi (W.runS (As := [.long ll, .int (nI b)]) (rest := []) ⟨hx, hb, hml, hown, hT⟩ (m_is l ll b (by omega)) (cwS 2 hT g_M_36 rfl rfl rfl (by decide +kernel) ⟨Nat.le_of_ble_eq_true rfl, Nat.le_of_ble_eq_true rfl⟩) preEq rfl rfl hl.1 rfl (lv_room (Nat.le_of_ble_eq_true rfl)) dM_look_290 ⟨Nat.le_of_ble_eq_true rfl, Nat.le_of_ble_eq_true rfl⟩) (fun r_39 hr_39 => ?_)
                            rw [hr_39]; clear hr_39
                            refine lv_if_eq (tgt := 315) hx hb dM_look_293 (by decide) (fun c_40 => ?_) (fun c_40 => ?_)
                            · skip
                              have c_40 := bw_i0.mp c_40
                              refine lv_iinc (v := nI (b + 1)) (lv' := [(6, .int (nI (b + 1))), (0, .ref y), (1, .int (nI d)), (2, .long nn), (4, .long ll)]) hx hb dM_look_315 hl (k := 4) rfl (nI_1 _) (by decide) rfl (fun ls hl => ?_)
                              refine lv_goto (tgt := 251) hx hb dM_look_318 (by decide) ?_
                              exact ih_251 (b + 1) g8 g9 (by omega) (by omega) (by first | exact bw_oI_t hO1 (by omega) hnn c_38 | exact bw_oI_f hO1 hnn c_38) (by first | exact bw_oI_t hO2 (by omega) hll c_40 | exact bw_oI_f hO2 hll c_40) H locs hP hD hS ls (lv_sub hl [1, 2, 3, 4, 0] rfl)
                            · skip
                              have c_40 := bw_in0 c_40
                              refine lv_aload_n hx hb dM_look_296 rfl (lv_at hl 0 rfl) ?_
                              refine va_get (D := (dC, dI)) (ci := 3) (v := .ref h1) (C := RM) (T := TM) (N := 15) hx hb hT inM hown hK hP 0 rfl rfl 10 (by decide) (hT _ hw_348) (fun _ h9 => h9) rfl dM_look_297 ?_
                              refine lv_iload hx hb dM_look_300 (lv_at hl 4 rfl) ?_
                              refine lv_aload_n hx hb dM_look_302 rfl (lv_at hl 0 rfl) ?_
                              refine va_get (D := (dC, dI)) (ci := 3) (v := .ref h1) (C := RM) (T := TM) (N := 15) hx hb hT inM hown hK hP 0 rfl rfl 10 (by decide) (hT _ hw_348) (fun _ h9 => h9) rfl dM_look_303 ?_
                              refine lv_iload hx hb dM_look_306 (lv_at hl 4 rfl) ?_
                              refine bw_lald hx hb hK hP 5 1 (k := b) rfl rfl (by omega) (by decide) dM_look_308 ?_
                              refine lv_iload_n hx hb dM_look_309 rfl (lv_at hl 1 rfl) ?_
                              refine vp_callSl (W.runS (As := [.int (nI d)]) (rest := [.long (g9 b), .int (nI b), .ref h1]) ⟨hx, hb, hml, hown, hT⟩ (m_bit l d) (cwS 1 hT g_M_48 rfl rfl rfl (by decide +kernel) ⟨Nat.le_of_ble_eq_true rfl, Nat.le_of_ble_eq_true rfl⟩) preEq rfl rfl hl.1 rfl (lv_room (Nat.le_of_ble_eq_true rfl)) dM_look_310 ⟨Nat.le_of_ble_eq_true rfl, Nat.le_of_ble_eq_true rfl⟩) (fun r_41 hr_41 => ?_)
                              rw [hr_41]; clear hr_41
                              refine lv_lor hx hb dM_look_313 ?_
                              refine bw_last hx hb hK hP hD hS 5 1 (k := b) rfl rfl (by omega) (by decide) dM_look_314 (fun H locs hP hD hS => ?_)
                              have hP : va_P (dC, dI) vwCl [(y, .inr (3, [.int tw, .long T, .ref m1, .ref m2, .int 1, .ref s1, .long r_3, .long r_4, .long e9, .ref v1, .ref h1, .long he, .ref d1, .ref e1, .int pl])), (m1, .inl (cI, 40, .inl mn)), (m2, .inl (cI, 160, .inl tg)), (s1, .inl (cL, 40, .inr (.inl g1))), (v1, .inl (cL, 40, .inr (.inl g8))), (h1, .inl (cL, 40, .inr (.inl (vp_updL g9 b ((g9 b) ||| (bw_b d)))))), (d1, .inl (cL, 40, .inr (.inl g4))), (e1, .inl (cL, 40, .inr (.inl ed)))] H := hP
                              have hD : va_D A [(y, .inr (3, [.int tw, .long T, .ref m1, .ref m2, .int 1, .ref s1, .long r_3, .long r_4, .long e9, .ref v1, .ref h1, .long he, .ref d1, .ref e1, .int pl])), (m1, .inl (cI, 40, .inl mn)), (m2, .inl (cI, 160, .inl tg)), (s1, .inl (cL, 40, .inr (.inl g1))), (v1, .inl (cL, 40, .inr (.inl g8))), (h1, .inl (cL, 40, .inr (.inl (vp_updL g9 b ((g9 b) ||| (bw_b d)))))), (d1, .inl (cL, 40, .inr (.inl g4))), (e1, .inl (cL, 40, .inr (.inl ed)))] := hD
                              refine lv_iinc (v := nI (b + 1)) (lv' := [(6, .int (nI (b + 1))), (0, .ref y), (1, .int (nI d)), (2, .long nn), (4, .long ll)]) hx hb dM_look_315 hl (k := 4) rfl (nI_1 _) (by decide) rfl (fun ls hl => ?_)
                              refine lv_goto (tgt := 251) hx hb dM_look_318 (by decide) ?_
                              exact ih_251 (b + 1) g8 (vp_updL g9 b ((g9 b) ||| (bw_b d))) (by omega) (by omega) (by first | exact bw_oI_t hO1 (by omega) hnn c_38 | exact bw_oI_f hO1 hnn c_38) (by first | exact bw_oI_t hO2 (by omega) hll c_40 | exact bw_oI_f hO2 hll c_40) H locs hP hD hS ls (lv_sub hl [1, 2, 3, 4, 0] rfl)
                          · skip
                            have c_38 := bw_in0 c_38
                            refine lv_aload_n hx hb dM_look_267 rfl (lv_at hl 0 rfl) ?_
                            refine va_get (D := (dC, dI)) (ci := 3) (v := .ref v1) (C := RM) (T := TM) (N := 15) hx hb hT inM hown hK hP 0 rfl rfl 9 (by decide) (hT _ hw_347) (fun _ h9 => h9) rfl dM_look_268 ?_
                            refine lv_iload hx hb dM_look_271 (lv_at hl 4 rfl) ?_
                            refine lv_aload_n hx hb dM_look_273 rfl (lv_at hl 0 rfl) ?_
                            refine va_get (D := (dC, dI)) (ci := 3) (v := .ref v1) (C := RM) (T := TM) (N := 15) hx hb hT inM hown hK hP 0 rfl rfl 9 (by decide) (hT _ hw_347) (fun _ h9 => h9) rfl dM_look_274 ?_
                            refine lv_iload hx hb dM_look_277 (lv_at hl 4 rfl) ?_
                            refine bw_lald hx hb hK hP 4 1 (k := b) rfl rfl (by omega) (by decide) dM_look_279 ?_
                            refine lv_iload_n hx hb dM_look_280 rfl (lv_at hl 1 rfl) ?_
                            refine vp_callSl (W.runS (As := [.int (nI d)]) (rest := [.long (g8 b), .int (nI b), .ref v1]) ⟨hx, hb, hml, hown, hT⟩ (m_bit l d) (cwS 1 hT g_M_48 rfl rfl rfl (by decide +kernel) ⟨Nat.le_of_ble_eq_true rfl, Nat.le_of_ble_eq_true rfl⟩) preEq rfl rfl hl.1 rfl (lv_room (Nat.le_of_ble_eq_true rfl)) dM_look_281 ⟨Nat.le_of_ble_eq_true rfl, Nat.le_of_ble_eq_true rfl⟩) (fun r_42 hr_42 => ?_)
                            rw [hr_42]; clear hr_42
                            refine lv_lor hx hb dM_look_284 ?_
                            refine bw_last hx hb hK hP hD hS 4 1 (k := b) rfl rfl (by omega) (by decide) dM_look_285 (fun H locs hP hD hS => ?_)
                            have hP : va_P (dC, dI) vwCl [(y, .inr (3, [.int tw, .long T, .ref m1, .ref m2, .int 1, .ref s1, .long r_3, .long r_4, .long e9, .ref v1, .ref h1, .long he, .ref d1, .ref e1, .int pl])), (m1, .inl (cI, 40, .inl mn)), (m2, .inl (cI, 160, .inl tg)), (s1, .inl (cL, 40, .inr (.inl g1))), (v1, .inl (cL, 40, .inr (.inl (vp_updL g8 b ((g8 b) ||| (bw_b d)))))), (h1, .inl (cL, 40, .inr (.inl g9))), (d1, .inl (cL, 40, .inr (.inl g4))), (e1, .inl (cL, 40, .inr (.inl ed)))] H := hP
                            have hD : va_D A [(y, .inr (3, [.int tw, .long T, .ref m1, .ref m2, .int 1, .ref s1, .long r_3, .long r_4, .long e9, .ref v1, .ref h1, .long he, .ref d1, .ref e1, .int pl])), (m1, .inl (cI, 40, .inl mn)), (m2, .inl (cI, 160, .inl tg)), (s1, .inl (cL, 40, .inr (.inl g1))), (v1, .inl (cL, 40, .inr (.inl (vp_updL g8 b ((g8 b) ||| (bw_b d)))))), (h1, .inl (cL, 40, .inr (.inl g9))), (d1, .inl (cL, 40, .inr (.inl g4))), (e1, .inl (cL, 40, .inr (.inl ed)))] := hD
                            refine lv_lload hx hb dM_look_286 (lv_at hl 3 rfl) ?_
                            refine lv_iload hx hb dM_look_288 (lv_at hl 4 rfl) ?_
                            refine vp_callSi (W.runS (As := [.long ll, .int (nI b)]) (rest := []) ⟨hx, hb, hml, hown, hT⟩ (m_is l ll b (by omega)) (cwS 2 hT g_M_36 rfl rfl rfl (by decide +kernel) ⟨Nat.le_of_ble_eq_true rfl, Nat.le_of_ble_eq_true rfl⟩) preEq rfl rfl hl.1 rfl (lv_room (Nat.le_of_ble_eq_true rfl)) dM_look_290 ⟨Nat.le_of_ble_eq_true rfl, Nat.le_of_ble_eq_true rfl⟩) (fun r_43 hr_43 => ?_)
                            rw [hr_43]; clear hr_43
                            refine lv_if_eq (tgt := 315) hx hb dM_look_293 (by decide) (fun c_44 => ?_) (fun c_44 => ?_)
                            · skip
                              have c_44 := bw_i0.mp c_44
                              refine lv_iinc (v := nI (b + 1)) (lv' := [(6, .int (nI (b + 1))), (0, .ref y), (1, .int (nI d)), (2, .long nn), (4, .long ll)]) hx hb dM_look_315 hl (k := 4) rfl (nI_1 _) (by decide) rfl (fun ls hl => ?_)
                              refine lv_goto (tgt := 251) hx hb dM_look_318 (by decide) ?_
                              exact ih_251 (b + 1) (vp_updL g8 b ((g8 b) ||| (bw_b d))) g9 (by omega) (by omega) (by first | exact bw_oI_t hO1 (by omega) hnn c_38 | exact bw_oI_f hO1 hnn c_38) (by first | exact bw_oI_t hO2 (by omega) hll c_44 | exact bw_oI_f hO2 hll c_44) H locs hP hD hS ls (lv_sub hl [1, 2, 3, 4, 0] rfl)
                            · skip
                              have c_44 := bw_in0 c_44
                              refine lv_aload_n hx hb dM_look_296 rfl (lv_at hl 0 rfl) ?_
                              refine va_get (D := (dC, dI)) (ci := 3) (v := .ref h1) (C := RM) (T := TM) (N := 15) hx hb hT inM hown hK hP 0 rfl rfl 10 (by decide) (hT _ hw_348) (fun _ h9 => h9) rfl dM_look_297 ?_
                              refine lv_iload hx hb dM_look_300 (lv_at hl 4 rfl) ?_
                              refine lv_aload_n hx hb dM_look_302 rfl (lv_at hl 0 rfl) ?_
                              refine va_get (D := (dC, dI)) (ci := 3) (v := .ref h1) (C := RM) (T := TM) (N := 15) hx hb hT inM hown hK hP 0 rfl rfl 10 (by decide) (hT _ hw_348) (fun _ h9 => h9) rfl dM_look_303 ?_
                              refine lv_iload hx hb dM_look_306 (lv_at hl 4 rfl) ?_
                              refine bw_lald hx hb hK hP 5 1 (k := b) rfl rfl (by omega) (by decide) dM_look_308 ?_
                              refine lv_iload_n hx hb dM_look_309 rfl (lv_at hl 1 rfl) ?_
                              refine vp_callSl (W.runS (As := [.int (nI d)]) (rest := [.long (g9 b), .int (nI b), .ref h1]) ⟨hx, hb, hml, hown, hT⟩ (m_bit l d) (cwS 1 hT g_M_48 rfl rfl rfl (by decide +kernel) ⟨Nat.le_of_ble_eq_true rfl, Nat.le_of_ble_eq_true rfl⟩) preEq rfl rfl hl.1 rfl (lv_room (Nat.le_of_ble_eq_true rfl)) dM_look_310 ⟨Nat.le_of_ble_eq_true rfl, Nat.le_of_ble_eq_true rfl⟩) (fun r_45 hr_45 => ?_)
                              rw [hr_45]; clear hr_45
                              refine lv_lor hx hb dM_look_313 ?_
                              refine bw_last hx hb hK hP hD hS 5 1 (k := b) rfl rfl (by omega) (by decide) dM_look_314 (fun H locs hP hD hS => ?_)
                              have hP : va_P (dC, dI) vwCl [(y, .inr (3, [.int tw, .long T, .ref m1, .ref m2, .int 1, .ref s1, .long r_3, .long r_4, .long e9, .ref v1, .ref h1, .long he, .ref d1, .ref e1, .int pl])), (m1, .inl (cI, 40, .inl mn)), (m2, .inl (cI, 160, .inl tg)), (s1, .inl (cL, 40, .inr (.inl g1))), (v1, .inl (cL, 40, .inr (.inl (vp_updL g8 b ((g8 b) ||| (bw_b d)))))), (h1, .inl (cL, 40, .inr (.inl (vp_updL g9 b ((g9 b) ||| (bw_b d)))))), (d1, .inl (cL, 40, .inr (.inl g4))), (e1, .inl (cL, 40, .inr (.inl ed)))] H := hP
                              have hD : va_D A [(y, .inr (3, [.int tw, .long T, .ref m1, .ref m2, .int 1, .ref s1, .long r_3, .long r_4, .long e9, .ref v1, .ref h1, .long he, .ref d1, .ref e1, .int pl])), (m1, .inl (cI, 40, .inl mn)), (m2, .inl (cI, 160, .inl tg)), (s1, .inl (cL, 40, .inr (.inl g1))), (v1, .inl (cL, 40, .inr (.inl (vp_updL g8 b ((g8 b) ||| (bw_b d)))))), (h1, .inl (cL, 40, .inr (.inl (vp_updL g9 b ((g9 b) ||| (bw_b d)))))), (d1, .inl (cL, 40, .inr (.inl g4))), (e1, .inl (cL, 40, .inr (.inl ed)))] := hD
                              refine lv_iinc (v := nI (b + 1)) (lv' := [(6, .int (nI (b + 1))), (0, .ref y), (1, .int (nI d)), (2, .long nn), (4, .long ll)]) hx hb dM_look_315 hl (k := 4) rfl (nI_1 _) (by decide) rfl (fun ls hl => ?_)
                              refine lv_goto (tgt := 251) hx hb dM_look_318 (by decide) ?_
                              exact ih_251 (b + 1) (vp_updL g8 b ((g8 b) ||| (bw_b d))) (vp_updL g9 b ((g9 b) ||| (bw_b d))) (by omega) (by omega) (by first | exact bw_oI_t hO1 (by omega) hnn c_38 | exact bw_oI_f hO1 hnn c_38) (by first | exact bw_oI_t hO2 (by omega) hll c_44 | exact bw_oI_f hO2 hll c_44) H locs hP hD hS ls (lv_sub hl [1, 2, 3, 4, 0] rfl)
                    exact loop_251 41 0 g6 g7 (by omega) (by omega) (bw_oI_0 hQ1) (bw_oI_0 hQ2) H locs hP hD hS ls (lv_sub hl [3, 4, 2, 1, 0] rfl)
                  · skip
                    have c_35 := bw_in0 c_35
                    refine lv_aload_n hx hb dM_look_224 rfl (lv_at hl 1 rfl) ?_
                    refine va_get (D := (dC, dI)) (ci := 3) (v := .long r_4) (C := RM) (T := TM) (N := 15) hx hb hT inM hown hK hP 0 rfl rfl 7 (by decide) (hT _ hw_345) (fun _ h9 => h9) rfl dM_look_225 ?_
                    refine lv_aload_n hx hb dM_look_228 rfl (lv_at hl 1 rfl) ?_
                    refine lv_aload_n hx hb dM_look_229 rfl (lv_at hl 1 rfl) ?_
                    refine va_get (D := (dC, dI)) (ci := 3) (v := .long e9) (C := RM) (T := TM) (N := 15) hx hb hT inM hown hK hP 0 rfl rfl 8 (by decide) (hT _ hw_346) (fun _ h9 => h9) rfl dM_look_230 ?_
                    refine lv_iload_n hx hb dM_look_233 rfl (lv_at hl 2 rfl) ?_
                    have hPc := hP
                    have hKc := hK
                    refine vp_callSl (W.runV (As := [.long e9, .int (nI d)]) (rest := [.long r_4]) ⟨hx, hb, hml, hown, hT⟩ (m_leadToS l dC dI y m1 m2 s1 v1 h1 d1 e1 cI cL tw T mn tg 1 g1 r_3 r_4 e9 g6 g7 he g4 ed pl e9 d (by omega)) (cwV 2 hT g_M_67 rfl rfl rfl (by decide +kernel) ⟨Nat.le_of_ble_eq_true rfl, Nat.le_of_ble_eq_true rfl⟩) (bw_pV hPc hKc hN (ci := 3) (q0 := 0) rfl rfl) rfl rfl hl.1 rfl (lv_room (Nat.le_of_ble_eq_true rfl)) dM_look_234 ⟨Nat.le_of_ble_eq_true rfl, Nat.le_of_ble_eq_true rfl⟩) (fun r_46 hr_46 => ?_)
                    have hs8 := bw_leadE h40 hms hsb hen (fun d z => by cases z; omega) hr_46
                    refine lv_ldc2 (v := (-1)) hx hb hown (hT _ hw_409) dM_look_237 ?_
                    refine lv_lxor hx hb dM_look_240 ?_
                    refine lv_land hx hb dM_look_241 ?_
                    refine lv_goto (tgt := 246) hx hb dM_look_242 (by decide) ?_
                    refine lv_lstore (lv' := [(4, .long (r_4 &&& (r_46 ^^^ (-1)))), (2, .long nn), (0, .ref y), (1, .int (nI d))]) hx hb dM_look_246 hl (by decide) rfl (fun ls hl => ?_)
                    obtain ⟨ll, e_ll⟩ : ∃ z : Int64, z = r_4 &&& (r_46 ^^^ (-1)) := ⟨_, rfl⟩
                    rw [← e_ll] at hl
                    have hll : ∀ b, bw_m ll b = true ↔ bw_D (bw_I e9 T) (bw_EB T g1) d b := by rw [e_ll]; exact bw_nnT hgd c_35 hs8
                    refine lv_iconst (v := nI 0) hx hb dM_look_248 (by decide) ?_
                    refine lv_istore (lv' := [(6, .int (nI 0)), (4, .long ll), (2, .long nn), (0, .ref y), (1, .int (nI d))]) hx hb dM_look_249 hl (by decide) rfl (fun ls hl => ?_)
                    have loop_251 : ∀ (n_251 : Nat) (b : Nat) (g8 : Nat → Int64) (g9 : Nat → Int64), (b ≤ 40) → (40 < b + n_251) → (bw_oI (bw_D (bw_IF T) (bw_EF T g1)) d b g8) → (bw_oI (bw_D (bw_I e9 T) (bw_EB T g1)) d b g9) → ∀ (H : Heap) (locs : List Loc), va_P (dC, dI) vwCl [(y, .inr (3, [.int tw, .long T, .ref m1, .ref m2, .int 1, .ref s1, .long r_3, .long r_4, .long e9, .ref v1, .ref h1, .long he, .ref d1, .ref e1, .int pl])), (m1, .inl (cI, 40, .inl mn)), (m2, .inl (cI, 160, .inl tg)), (s1, .inl (cL, 40, .inr (.inl g1))), (v1, .inl (cL, 40, .inr (.inl g8))), (h1, .inl (cL, 40, .inr (.inl g9))), (d1, .inl (cL, 40, .inr (.inl g4))), (e1, .inl (cL, 40, .inr (.inl ed)))] H → va_D A [(y, .inr (3, [.int tw, .long T, .ref m1, .ref m2, .int 1, .ref s1, .long r_3, .long r_4, .long e9, .ref v1, .ref h1, .long he, .ref d1, .ref e1, .int pl])), (m1, .inl (cI, 40, .inl mn)), (m2, .inl (cI, 160, .inl tg)), (s1, .inl (cL, 40, .inr (.inl g1))), (v1, .inl (cL, 40, .inr (.inl g8))), (h1, .inl (cL, 40, .inr (.inl g9))), (d1, .inl (cL, 40, .inr (.inl g4))), (e1, .inl (cL, 40, .inr (.inl ed)))] → va_S A s.heap H locs → ∀ (ls : Array Slot), lv_has ls 7 [(0, .ref y), (1, .int (nI d)), (2, .long nn), (4, .long ll), (6, .int (nI b))] → W p l e (headSpec wsM_look ({ frames := 3, cells := 0, slots := 0, locals := 77 } : Room)).room s m ([.ref y] : List Value).toArray below meth c H locs 0 0 (MQ below (va_Qv (S := bw_MS) (fun u => bw_Mk T n t u.1 u.2.1 u.2.2.1 u.2.2.2.1 u.2.2.2.2.1 u.2.2.2.2.2.1 u.2.2.2.2.2.2.1 u.2.2.2.2.2.2.2.1 u.2.2.2.2.2.2.2.2.1 u.2.2.2.2.2.2.2.2.2) (fun (u : bw_MS) t => va_P (dC, dI) vwCl [(y, .inr (3, [.int tw, .long T, .ref m1, .ref m2, .int 1, .ref s1, .long u.2.1, .long u.2.2.1, .long u.2.2.2.1, .ref v1, .ref h1, .long u.2.2.2.2.2.2.1, .ref d1, .ref e1, .int u.2.2.2.2.2.2.2.2.2])), (m1, .inl (cI, 40, .inl mn)), (m2, .inl (cI, 160, .inl tg)), (s1, .inl (cL, 40, .inr (.inl u.1))), (v1, .inl (cL, 40, .inr (.inl u.2.2.2.2.1))), (h1, .inl (cL, 40, .inr (.inl u.2.2.2.2.2.1))), (d1, .inl (cL, 40, .inr (.inl u.2.2.2.2.2.2.2.1))), (e1, .inl (cL, 40, .inr (.inl u.2.2.2.2.2.2.2.2.1)))] t.heap ∧ va_D A [(y, .inr (3, [.int tw, .long T, .ref m1, .ref m2, .int 1, .ref s1, .long u.2.1, .long u.2.2.1, .long u.2.2.2.1, .ref v1, .ref h1, .long u.2.2.2.2.2.2.1, .ref d1, .ref e1, .int u.2.2.2.2.2.2.2.2.2])), (m1, .inl (cI, 40, .inl mn)), (m2, .inl (cI, 160, .inl tg)), (s1, .inl (cL, 40, .inr (.inl u.1))), (v1, .inl (cL, 40, .inr (.inl u.2.2.2.2.1))), (h1, .inl (cL, 40, .inr (.inl u.2.2.2.2.2.1))), (d1, .inl (cL, 40, .inr (.inl u.2.2.2.2.2.2.2.1))), (e1, .inl (cL, 40, .inr (.inl u.2.2.2.2.2.2.2.2.1)))]) A) ([.ref y] : List Value).toArray s 0 0 A) (F0 m 251 ls []) := by
                      intro n_251
                      induction n_251 with
                      | zero => intro b g8 g9 hib hfb hO1 hO2; exfalso; omega
                      | succ n_251 ih_251 =>
                        intro b g8 g9 hib hfb hO1 hO2 H locs hP hD hS ls hl
                        refine lv_iload hx hb dM_look_251 (lv_at hl 4 rfl) ?_
                        refine lv_bipush (v := nI 40) hx hb dM_look_253 (by decide) ?_
                        refine lv_icmp_ge (tgt := 321) hx hb dM_look_255 (by decide) (fun c_47 => ?_) (fun c_47 => ?_)
                        · skip
                          have c_47 : 40 ≤ b := (nI_leI (a := 40) (b := b) (by omega) (by omega)).mp c_47
                          refine lv_iinc (v := nI (d + 1)) (lv' := [(1, .int (nI (d + 1))), (0, .ref y), (2, .long nn), (4, .long ll), (6, .int (nI b))]) hx hb dM_look_321 hl (k := 1) rfl (nI_1 _) (by decide) rfl (fun ls hl => ?_)
                          refine lv_goto (tgt := 177) hx hb dM_look_324 (by decide) ?_
                          exact ih_177 (d + 1) g8 g9 (by omega) (by omega) (bw_oO_s hO1 (by omega)) (bw_oO_s hO2 (by omega)) H locs hP hD hS ls (lv_sub hl [1, 0] rfl)
                        · skip
                          have c_47 : ¬ 40 ≤ b := fun z => c_47 ((nI_leI (a := 40) (b := b) (by omega) (by omega)).mpr z)
                          refine lv_lload_n hx hb dM_look_258 rfl (lv_at hl 2 rfl) ?_
                          refine lv_iload hx hb dM_look_259 (lv_at hl 4 rfl) ?_
                          refine vp_callSi (W.runS (As := [.long nn, .int (nI b)]) (rest := []) ⟨hx, hb, hml, hown, hT⟩ (m_is l nn b (by omega)) (cwS 2 hT g_M_36 rfl rfl rfl (by decide +kernel) ⟨Nat.le_of_ble_eq_true rfl, Nat.le_of_ble_eq_true rfl⟩) preEq rfl rfl hl.1 rfl (lv_room (Nat.le_of_ble_eq_true rfl)) dM_look_261 ⟨Nat.le_of_ble_eq_true rfl, Nat.le_of_ble_eq_true rfl⟩) (fun r_48 hr_48 => ?_)
                          rw [hr_48]; clear hr_48
                          refine lv_if_eq (tgt := 286) hx hb dM_look_264 (by decide) (fun c_49 => ?_) (fun c_49 => ?_)
                          · skip
                            have c_49 := bw_i0.mp c_49
                            refine lv_lload hx hb dM_look_286 (lv_at hl 3 rfl) ?_
                            refine lv_iload hx hb dM_look_288 (lv_at hl 4 rfl) ?_
                            refine vp_callSi (W.runS (As := [.long ll, .int (nI b)]) (rest := []) ⟨hx, hb, hml, hown, hT⟩ (m_is l ll b (by omega)) (cwS 2 hT g_M_36 rfl rfl rfl (by decide +kernel) ⟨Nat.le_of_ble_eq_true rfl, Nat.le_of_ble_eq_true rfl⟩) preEq rfl rfl hl.1 rfl (lv_room (Nat.le_of_ble_eq_true rfl)) dM_look_290 ⟨Nat.le_of_ble_eq_true rfl, Nat.le_of_ble_eq_true rfl⟩) (fun r_50 hr_50 => ?_)
                            rw [hr_50]; clear hr_50
                            refine lv_if_eq (tgt := 315) hx hb dM_look_293 (by decide) (fun c_51 => ?_) (fun c_51 => ?_)
                            · skip
                              have c_51 := bw_i0.mp c_51
                              refine lv_iinc (v := nI (b + 1)) (lv' := [(6, .int (nI (b + 1))), (0, .ref y), (1, .int (nI d)), (2, .long nn), (4, .long ll)]) hx hb dM_look_315 hl (k := 4) rfl (nI_1 _) (by decide) rfl (fun ls hl => ?_)
                              refine lv_goto (tgt := 251) hx hb dM_look_318 (by decide) ?_
                              exact ih_251 (b + 1) g8 g9 (by omega) (by omega) (by first | exact bw_oI_t hO1 (by omega) hnn c_49 | exact bw_oI_f hO1 hnn c_49) (by first | exact bw_oI_t hO2 (by omega) hll c_51 | exact bw_oI_f hO2 hll c_51) H locs hP hD hS ls (lv_sub hl [1, 2, 3, 4, 0] rfl)
                            · skip
                              have c_51 := bw_in0 c_51
                              refine lv_aload_n hx hb dM_look_296 rfl (lv_at hl 0 rfl) ?_
                              refine va_get (D := (dC, dI)) (ci := 3) (v := .ref h1) (C := RM) (T := TM) (N := 15) hx hb hT inM hown hK hP 0 rfl rfl 10 (by decide) (hT _ hw_348) (fun _ h9 => h9) rfl dM_look_297 ?_
                              refine lv_iload hx hb dM_look_300 (lv_at hl 4 rfl) ?_
                              refine lv_aload_n hx hb dM_look_302 rfl (lv_at hl 0 rfl) ?_
                              refine va_get (D := (dC, dI)) (ci := 3) (v := .ref h1) (C := RM) (T := TM) (N := 15) hx hb hT inM hown hK hP 0 rfl rfl 10 (by decide) (hT _ hw_348) (fun _ h9 => h9) rfl dM_look_303 ?_
                              refine lv_iload hx hb dM_look_306 (lv_at hl 4 rfl) ?_
                              refine bw_lald hx hb hK hP 5 1 (k := b) rfl rfl (by omega) (by decide) dM_look_308 ?_
                              refine lv_iload_n hx hb dM_look_309 rfl (lv_at hl 1 rfl) ?_
                              refine vp_callSl (W.runS (As := [.int (nI d)]) (rest := [.long (g9 b), .int (nI b), .ref h1]) ⟨hx, hb, hml, hown, hT⟩ (m_bit l d) (cwS 1 hT g_M_48 rfl rfl rfl (by decide +kernel) ⟨Nat.le_of_ble_eq_true rfl, Nat.le_of_ble_eq_true rfl⟩) preEq rfl rfl hl.1 rfl (lv_room (Nat.le_of_ble_eq_true rfl)) dM_look_310 ⟨Nat.le_of_ble_eq_true rfl, Nat.le_of_ble_eq_true rfl⟩) (fun r_52 hr_52 => ?_)
                              rw [hr_52]; clear hr_52
                              refine lv_lor hx hb dM_look_313 ?_
                              refine bw_last hx hb hK hP hD hS 5 1 (k := b) rfl rfl (by omega) (by decide) dM_look_314 (fun H locs hP hD hS => ?_)
                              have hP : va_P (dC, dI) vwCl [(y, .inr (3, [.int tw, .long T, .ref m1, .ref m2, .int 1, .ref s1, .long r_3, .long r_4, .long e9, .ref v1, .ref h1, .long he, .ref d1, .ref e1, .int pl])), (m1, .inl (cI, 40, .inl mn)), (m2, .inl (cI, 160, .inl tg)), (s1, .inl (cL, 40, .inr (.inl g1))), (v1, .inl (cL, 40, .inr (.inl g8))), (h1, .inl (cL, 40, .inr (.inl (vp_updL g9 b ((g9 b) ||| (bw_b d)))))), (d1, .inl (cL, 40, .inr (.inl g4))), (e1, .inl (cL, 40, .inr (.inl ed)))] H := hP
                              have hD : va_D A [(y, .inr (3, [.int tw, .long T, .ref m1, .ref m2, .int 1, .ref s1, .long r_3, .long r_4, .long e9, .ref v1, .ref h1, .long he, .ref d1, .ref e1, .int pl])), (m1, .inl (cI, 40, .inl mn)), (m2, .inl (cI, 160, .inl tg)), (s1, .inl (cL, 40, .inr (.inl g1))), (v1, .inl (cL, 40, .inr (.inl g8))), (h1, .inl (cL, 40, .inr (.inl (vp_updL g9 b ((g9 b) ||| (bw_b d)))))), (d1, .inl (cL, 40, .inr (.inl g4))), (e1, .inl (cL, 40, .inr (.inl ed)))] := hD
                              refine lv_iinc (v := nI (b + 1)) (lv' := [(6, .int (nI (b + 1))), (0, .ref y), (1, .int (nI d)), (2, .long nn), (4, .long ll)]) hx hb dM_look_315 hl (k := 4) rfl (nI_1 _) (by decide) rfl (fun ls hl => ?_)
                              refine lv_goto (tgt := 251) hx hb dM_look_318 (by decide) ?_
                              exact ih_251 (b + 1) g8 (vp_updL g9 b ((g9 b) ||| (bw_b d))) (by omega) (by omega) (by first | exact bw_oI_t hO1 (by omega) hnn c_49 | exact bw_oI_f hO1 hnn c_49) (by first | exact bw_oI_t hO2 (by omega) hll c_51 | exact bw_oI_f hO2 hll c_51) H locs hP hD hS ls (lv_sub hl [1, 2, 3, 4, 0] rfl)
                          · skip
                            have c_49 := bw_in0 c_49
                            refine lv_aload_n hx hb dM_look_267 rfl (lv_at hl 0 rfl) ?_
                            refine va_get (D := (dC, dI)) (ci := 3) (v := .ref v1) (C := RM) (T := TM) (N := 15) hx hb hT inM hown hK hP 0 rfl rfl 9 (by decide) (hT _ hw_347) (fun _ h9 => h9) rfl dM_look_268 ?_
                            refine lv_iload hx hb dM_look_271 (lv_at hl 4 rfl) ?_
                            refine lv_aload_n hx hb dM_look_273 rfl (lv_at hl 0 rfl) ?_
                            refine va_get (D := (dC, dI)) (ci := 3) (v := .ref v1) (C := RM) (T := TM) (N := 15) hx hb hT inM hown hK hP 0 rfl rfl 9 (by decide) (hT _ hw_347) (fun _ h9 => h9) rfl dM_look_274 ?_
                            refine lv_iload hx hb dM_look_277 (lv_at hl 4 rfl) ?_
                            refine bw_lald hx hb hK hP 4 1 (k := b) rfl rfl (by omega) (by decide) dM_look_279 ?_
                            refine lv_iload_n hx hb dM_look_280 rfl (lv_at hl 1 rfl) ?_
                            refine vp_callSl (W.runS (As := [.int (nI d)]) (rest := [.long (g8 b), .int (nI b), .ref v1]) ⟨hx, hb, hml, hown, hT⟩ (m_bit l d) (cwS 1 hT g_M_48 rfl rfl rfl (by decide +kernel) ⟨Nat.le_of_ble_eq_true rfl, Nat.le_of_ble_eq_true rfl⟩) preEq rfl rfl hl.1 rfl (lv_room (Nat.le_of_ble_eq_true rfl)) dM_look_281 ⟨Nat.le_of_ble_eq_true rfl, Nat.le_of_ble_eq_true rfl⟩) (fun r_53 hr_53 => ?_)
                            rw [hr_53]; clear hr_53
                            refine lv_lor hx hb dM_look_284 ?_
                            refine bw_last hx hb hK hP hD hS 4 1 (k := b) rfl rfl (by omega) (by decide) dM_look_285 (fun H locs hP hD hS => ?_)
                            have hP : va_P (dC, dI) vwCl [(y, .inr (3, [.int tw, .long T, .ref m1, .ref m2, .int 1, .ref s1, .long r_3, .long r_4, .long e9, .ref v1, .ref h1, .long he, .ref d1, .ref e1, .int pl])), (m1, .inl (cI, 40, .inl mn)), (m2, .inl (cI, 160, .inl tg)), (s1, .inl (cL, 40, .inr (.inl g1))), (v1, .inl (cL, 40, .inr (.inl (vp_updL g8 b ((g8 b) ||| (bw_b d)))))), (h1, .inl (cL, 40, .inr (.inl g9))), (d1, .inl (cL, 40, .inr (.inl g4))), (e1, .inl (cL, 40, .inr (.inl ed)))] H := hP
                            have hD : va_D A [(y, .inr (3, [.int tw, .long T, .ref m1, .ref m2, .int 1, .ref s1, .long r_3, .long r_4, .long e9, .ref v1, .ref h1, .long he, .ref d1, .ref e1, .int pl])), (m1, .inl (cI, 40, .inl mn)), (m2, .inl (cI, 160, .inl tg)), (s1, .inl (cL, 40, .inr (.inl g1))), (v1, .inl (cL, 40, .inr (.inl (vp_updL g8 b ((g8 b) ||| (bw_b d)))))), (h1, .inl (cL, 40, .inr (.inl g9))), (d1, .inl (cL, 40, .inr (.inl g4))), (e1, .inl (cL, 40, .inr (.inl ed)))] := hD
                            refine lv_lload hx hb dM_look_286 (lv_at hl 3 rfl) ?_
                            refine lv_iload hx hb dM_look_288 (lv_at hl 4 rfl) ?_
                            refine vp_callSi (W.runS (As := [.long ll, .int (nI b)]) (rest := []) ⟨hx, hb, hml, hown, hT⟩ (m_is l ll b (by omega)) (cwS 2 hT g_M_36 rfl rfl rfl (by decide +kernel) ⟨Nat.le_of_ble_eq_true rfl, Nat.le_of_ble_eq_true rfl⟩) preEq rfl rfl hl.1 rfl (lv_room (Nat.le_of_ble_eq_true rfl)) dM_look_290 ⟨Nat.le_of_ble_eq_true rfl, Nat.le_of_ble_eq_true rfl⟩) (fun r_54 hr_54 => ?_)
                            rw [hr_54]; clear hr_54
                            refine lv_if_eq (tgt := 315) hx hb dM_look_293 (by decide) (fun c_55 => ?_) (fun c_55 => ?_)
                            · skip
                              have c_55 := bw_i0.mp c_55
                              refine lv_iinc (v := nI (b + 1)) (lv' := [(6, .int (nI (b + 1))), (0, .ref y), (1, .int (nI d)), (2, .long nn), (4, .long ll)]) hx hb dM_look_315 hl (k := 4) rfl (nI_1 _) (by decide) rfl (fun ls hl => ?_)
                              refine lv_goto (tgt := 251) hx hb dM_look_318 (by decide) ?_
                              exact ih_251 (b + 1) (vp_updL g8 b ((g8 b) ||| (bw_b d))) g9 (by omega) (by omega) (by first | exact bw_oI_t hO1 (by omega) hnn c_49 | exact bw_oI_f hO1 hnn c_49) (by first | exact bw_oI_t hO2 (by omega) hll c_55 | exact bw_oI_f hO2 hll c_55) H locs hP hD hS ls (lv_sub hl [1, 2, 3, 4, 0] rfl)
                            · skip
                              have c_55 := bw_in0 c_55
                              refine lv_aload_n hx hb dM_look_296 rfl (lv_at hl 0 rfl) ?_
                              refine va_get (D := (dC, dI)) (ci := 3) (v := .ref h1) (C := RM) (T := TM) (N := 15) hx hb hT inM hown hK hP 0 rfl rfl 10 (by decide) (hT _ hw_348) (fun _ h9 => h9) rfl dM_look_297 ?_
                              refine lv_iload hx hb dM_look_300 (lv_at hl 4 rfl) ?_
                              refine lv_aload_n hx hb dM_look_302 rfl (lv_at hl 0 rfl) ?_
                              refine va_get (D := (dC, dI)) (ci := 3) (v := .ref h1) (C := RM) (T := TM) (N := 15) hx hb hT inM hown hK hP 0 rfl rfl 10 (by decide) (hT _ hw_348) (fun _ h9 => h9) rfl dM_look_303 ?_
                              refine lv_iload hx hb dM_look_306 (lv_at hl 4 rfl) ?_
                              refine bw_lald hx hb hK hP 5 1 (k := b) rfl rfl (by omega) (by decide) dM_look_308 ?_
                              refine lv_iload_n hx hb dM_look_309 rfl (lv_at hl 1 rfl) ?_
                              refine vp_callSl (W.runS (As := [.int (nI d)]) (rest := [.long (g9 b), .int (nI b), .ref h1]) ⟨hx, hb, hml, hown, hT⟩ (m_bit l d) (cwS 1 hT g_M_48 rfl rfl rfl (by decide +kernel) ⟨Nat.le_of_ble_eq_true rfl, Nat.le_of_ble_eq_true rfl⟩) preEq rfl rfl hl.1 rfl (lv_room (Nat.le_of_ble_eq_true rfl)) dM_look_310 ⟨Nat.le_of_ble_eq_true rfl, Nat.le_of_ble_eq_true rfl⟩) (fun r_56 hr_56 => ?_)
                              rw [hr_56]; clear hr_56
                              refine lv_lor hx hb dM_look_313 ?_
                              refine bw_last hx hb hK hP hD hS 5 1 (k := b) rfl rfl (by omega) (by decide) dM_look_314 (fun H locs hP hD hS => ?_)
                              have hP : va_P (dC, dI) vwCl [(y, .inr (3, [.int tw, .long T, .ref m1, .ref m2, .int 1, .ref s1, .long r_3, .long r_4, .long e9, .ref v1, .ref h1, .long he, .ref d1, .ref e1, .int pl])), (m1, .inl (cI, 40, .inl mn)), (m2, .inl (cI, 160, .inl tg)), (s1, .inl (cL, 40, .inr (.inl g1))), (v1, .inl (cL, 40, .inr (.inl (vp_updL g8 b ((g8 b) ||| (bw_b d)))))), (h1, .inl (cL, 40, .inr (.inl (vp_updL g9 b ((g9 b) ||| (bw_b d)))))), (d1, .inl (cL, 40, .inr (.inl g4))), (e1, .inl (cL, 40, .inr (.inl ed)))] H := hP
                              have hD : va_D A [(y, .inr (3, [.int tw, .long T, .ref m1, .ref m2, .int 1, .ref s1, .long r_3, .long r_4, .long e9, .ref v1, .ref h1, .long he, .ref d1, .ref e1, .int pl])), (m1, .inl (cI, 40, .inl mn)), (m2, .inl (cI, 160, .inl tg)), (s1, .inl (cL, 40, .inr (.inl g1))), (v1, .inl (cL, 40, .inr (.inl (vp_updL g8 b ((g8 b) ||| (bw_b d)))))), (h1, .inl (cL, 40, .inr (.inl (vp_updL g9 b ((g9 b) ||| (bw_b d)))))), (d1, .inl (cL, 40, .inr (.inl g4))), (e1, .inl (cL, 40, .inr (.inl ed)))] := hD
                              refine lv_iinc (v := nI (b + 1)) (lv' := [(6, .int (nI (b + 1))), (0, .ref y), (1, .int (nI d)), (2, .long nn), (4, .long ll)]) hx hb dM_look_315 hl (k := 4) rfl (nI_1 _) (by decide) rfl (fun ls hl => ?_)
                              refine lv_goto (tgt := 251) hx hb dM_look_318 (by decide) ?_
                              exact ih_251 (b + 1) (vp_updL g8 b ((g8 b) ||| (bw_b d))) (vp_updL g9 b ((g9 b) ||| (bw_b d))) (by omega) (by omega) (by first | exact bw_oI_t hO1 (by omega) hnn c_49 | exact bw_oI_f hO1 hnn c_49) (by first | exact bw_oI_t hO2 (by omega) hll c_55 | exact bw_oI_f hO2 hll c_55) H locs hP hD hS ls (lv_sub hl [1, 2, 3, 4, 0] rfl)
                    exact loop_251 41 0 g6 g7 (by omega) (by omega) (bw_oI_0 hQ1) (bw_oI_0 hQ2) H locs hP hD hS ls (lv_sub hl [3, 4, 2, 1, 0] rfl)
          exact loop_177 41 0 g2 g3 (by omega) (by omega) (bw_oO_0 hZ2 e40) (bw_oO_0 hZ3 e40) H locs hP hD hS ls (lv_sub hl [1, 0] rfl)
        · skip
          have c_2 : ¬ 40 ≤ i := fun z => c_2 ((nI_leI (a := 40) (b := i) (by omega) (by omega)).mpr z)
          refine lv_aload_n hx hb dM_look_26 rfl (lv_at hl 0 rfl) ?_
          refine va_get (D := (dC, dI)) (ci := 3) (v := .ref s1) (C := RM) (T := TM) (N := 15) hx hb hT inM hown hK hP 0 rfl rfl 5 (by decide) (hT _ hw_343) (fun _ h9 => h9) rfl dM_look_27 ?_
          refine lv_iload_n hx hb dM_look_30 rfl (lv_at hl 1 rfl) ?_
          refine lv_lconst (v := 0) hx hb dM_look_31 (by decide) ?_
          refine bw_last hx hb hK hP hD hS 3 1 (k := i) rfl rfl (by omega) (by decide) dM_look_32 (fun H locs hP hD hS => ?_)
          have hP : va_P (dC, dI) vwCl [(y, .inr (3, [.int tw, .long T, .ref m1, .ref m2, .int 1, .ref s1, .long re, .long gd, .long e9, .ref v1, .ref h1, .long he, .ref d1, .ref e1, .int pl])), (m1, .inl (cI, 40, .inl mn)), (m2, .inl (cI, 160, .inl tg)), (s1, .inl (cL, 40, .inr (.inl (vp_updL g1 i 0)))), (v1, .inl (cL, 40, .inr (.inl g2))), (h1, .inl (cL, 40, .inr (.inl g3))), (d1, .inl (cL, 40, .inr (.inl g4))), (e1, .inl (cL, 40, .inr (.inl ed)))] H := hP
          have hD : va_D A [(y, .inr (3, [.int tw, .long T, .ref m1, .ref m2, .int 1, .ref s1, .long re, .long gd, .long e9, .ref v1, .ref h1, .long he, .ref d1, .ref e1, .int pl])), (m1, .inl (cI, 40, .inl mn)), (m2, .inl (cI, 160, .inl tg)), (s1, .inl (cL, 40, .inr (.inl (vp_updL g1 i 0)))), (v1, .inl (cL, 40, .inr (.inl g2))), (h1, .inl (cL, 40, .inr (.inl g3))), (d1, .inl (cL, 40, .inr (.inl g4))), (e1, .inl (cL, 40, .inr (.inl ed)))] := hD
          refine lv_iconst (v := nI 0) hx hb dM_look_33 (by decide) ?_
          refine lv_istore_n (lv' := [(2, .int (nI 0)), (0, .ref y), (1, .int (nI i))]) hx hb dM_look_34 rfl hl (by decide) rfl (fun ls hl => ?_)
          have loop_35 : ∀ (n_35 : Nat) (j : Nat) (g5 : Nat → Int64), (j ≤ 4) → (4 < j + n_35) → (bw_kI T n t i j g5) → ∀ (H : Heap) (locs : List Loc), va_P (dC, dI) vwCl [(y, .inr (3, [.int tw, .long T, .ref m1, .ref m2, .int 1, .ref s1, .long re, .long gd, .long e9, .ref v1, .ref h1, .long he, .ref d1, .ref e1, .int pl])), (m1, .inl (cI, 40, .inl mn)), (m2, .inl (cI, 160, .inl tg)), (s1, .inl (cL, 40, .inr (.inl g5))), (v1, .inl (cL, 40, .inr (.inl g2))), (h1, .inl (cL, 40, .inr (.inl g3))), (d1, .inl (cL, 40, .inr (.inl g4))), (e1, .inl (cL, 40, .inr (.inl ed)))] H → va_D A [(y, .inr (3, [.int tw, .long T, .ref m1, .ref m2, .int 1, .ref s1, .long re, .long gd, .long e9, .ref v1, .ref h1, .long he, .ref d1, .ref e1, .int pl])), (m1, .inl (cI, 40, .inl mn)), (m2, .inl (cI, 160, .inl tg)), (s1, .inl (cL, 40, .inr (.inl g5))), (v1, .inl (cL, 40, .inr (.inl g2))), (h1, .inl (cL, 40, .inr (.inl g3))), (d1, .inl (cL, 40, .inr (.inl g4))), (e1, .inl (cL, 40, .inr (.inl ed)))] → va_S A s.heap H locs → ∀ (ls : Array Slot), lv_has ls 7 [(0, .ref y), (1, .int (nI i)), (2, .int (nI j))] → W p l e (headSpec wsM_look ({ frames := 3, cells := 0, slots := 0, locals := 77 } : Room)).room s m ([.ref y] : List Value).toArray below meth c H locs 0 0 (MQ below (va_Qv (S := bw_MS) (fun u => bw_Mk T n t u.1 u.2.1 u.2.2.1 u.2.2.2.1 u.2.2.2.2.1 u.2.2.2.2.2.1 u.2.2.2.2.2.2.1 u.2.2.2.2.2.2.2.1 u.2.2.2.2.2.2.2.2.1 u.2.2.2.2.2.2.2.2.2) (fun (u : bw_MS) t => va_P (dC, dI) vwCl [(y, .inr (3, [.int tw, .long T, .ref m1, .ref m2, .int 1, .ref s1, .long u.2.1, .long u.2.2.1, .long u.2.2.2.1, .ref v1, .ref h1, .long u.2.2.2.2.2.2.1, .ref d1, .ref e1, .int u.2.2.2.2.2.2.2.2.2])), (m1, .inl (cI, 40, .inl mn)), (m2, .inl (cI, 160, .inl tg)), (s1, .inl (cL, 40, .inr (.inl u.1))), (v1, .inl (cL, 40, .inr (.inl u.2.2.2.2.1))), (h1, .inl (cL, 40, .inr (.inl u.2.2.2.2.2.1))), (d1, .inl (cL, 40, .inr (.inl u.2.2.2.2.2.2.2.1))), (e1, .inl (cL, 40, .inr (.inl u.2.2.2.2.2.2.2.2.1)))] t.heap ∧ va_D A [(y, .inr (3, [.int tw, .long T, .ref m1, .ref m2, .int 1, .ref s1, .long u.2.1, .long u.2.2.1, .long u.2.2.2.1, .ref v1, .ref h1, .long u.2.2.2.2.2.2.1, .ref d1, .ref e1, .int u.2.2.2.2.2.2.2.2.2])), (m1, .inl (cI, 40, .inl mn)), (m2, .inl (cI, 160, .inl tg)), (s1, .inl (cL, 40, .inr (.inl u.1))), (v1, .inl (cL, 40, .inr (.inl u.2.2.2.2.1))), (h1, .inl (cL, 40, .inr (.inl u.2.2.2.2.2.1))), (d1, .inl (cL, 40, .inr (.inl u.2.2.2.2.2.2.2.1))), (e1, .inl (cL, 40, .inr (.inl u.2.2.2.2.2.2.2.2.1)))]) A) ([.ref y] : List Value).toArray s 0 0 A) (F0 m 35 ls []) := by
            intro n_35
            induction n_35 with
            | zero => intro j g5 hj hjf hI; exfalso; omega
            | succ n_35 ih_35 =>
              intro j g5 hj hjf hI H locs hP hD hS ls hl
              refine lv_aload_n hx hb dM_look_35 rfl (lv_at hl 0 rfl) ?_
              refine va_get (D := (dC, dI)) (ci := 3) (v := .long T) (C := RM) (T := TM) (N := 15) hx hb hT inM hown hK hP 0 rfl rfl 1 (by decide) (hT _ hw_339) (fun _ h9 => h9) rfl dM_look_36 ?_
              refine lv_iload_n hx hb dM_look_39 rfl (lv_at hl 1 rfl) ?_
              refine vp_callSi (W.runS (As := [.long T, .int (nI i)]) (rest := []) ⟨hx, hb, hml, hown, hT⟩ (m_is l T i (by omega)) (cwS 2 hT g_M_36 rfl rfl rfl (by decide +kernel) ⟨Nat.le_of_ble_eq_true rfl, Nat.le_of_ble_eq_true rfl⟩) preEq rfl rfl hl.1 rfl (lv_room (Nat.le_of_ble_eq_true rfl)) dM_look_40 ⟨Nat.le_of_ble_eq_true rfl, Nat.le_of_ble_eq_true rfl⟩) (fun r_57 hr_57 => ?_)
              rw [hr_57]; clear hr_57
              refine lv_if_eq (tgt := 93) hx hb dM_look_43 (by decide) (fun c_58 => ?_) (fun c_58 => ?_)
              · skip
                have c_58 := bw_i0.mp c_58
                refine lv_aload_n hx hb dM_look_93 rfl (lv_at hl 0 rfl) ?_
                refine va_get (D := (dC, dI)) (ci := 3) (v := .long T) (C := RM) (T := TM) (N := 15) hx hb hT inM hown hK hP 0 rfl rfl 1 (by decide) (hT _ hw_339) (fun _ h9 => h9) rfl dM_look_94 ?_
                refine lv_iload_n hx hb dM_look_97 rfl (lv_at hl 1 rfl) ?_
                refine vp_callSi (W.runS (As := [.long T, .int (nI i)]) (rest := []) ⟨hx, hb, hml, hown, hT⟩ (m_is l T i (by omega)) (cwS 2 hT g_M_36 rfl rfl rfl (by decide +kernel) ⟨Nat.le_of_ble_eq_true rfl, Nat.le_of_ble_eq_true rfl⟩) preEq rfl rfl hl.1 rfl (lv_room (Nat.le_of_ble_eq_true rfl)) dM_look_98 ⟨Nat.le_of_ble_eq_true rfl, Nat.le_of_ble_eq_true rfl⟩) (fun r_59 hr_59 => ?_)
                rw [hr_59]; clear hr_59
                refine lv_if_eq (tgt := 126) hx hb dM_look_101 (by decide) (fun c_60 => ?_) (fun c_60 => ?_)
                · skip
                  have c_60 := bw_i0.mp c_60
                  refine lv_aload_n hx hb dM_look_126 rfl (lv_at hl 0 rfl) ?_
                  refine va_get (D := (dC, dI)) (ci := 3) (v := .ref v1) (C := RM) (T := TM) (N := 15) hx hb hT inM hown hK hP 0 rfl rfl 9 (by decide) (hT _ hw_347) (fun _ h9 => h9) rfl dM_look_127 ?_
                  refine lv_iload_n hx hb dM_look_130 rfl (lv_at hl 1 rfl) ?_
                  refine lv_lconst (v := 0) hx hb dM_look_131 (by decide) ?_
                  refine bw_last hx hb hK hP hD hS 4 1 (k := i) rfl rfl (by omega) (by decide) dM_look_132 (fun H locs hP hD hS => ?_)
                  have hP : va_P (dC, dI) vwCl [(y, .inr (3, [.int tw, .long T, .ref m1, .ref m2, .int 1, .ref s1, .long re, .long gd, .long e9, .ref v1, .ref h1, .long he, .ref d1, .ref e1, .int pl])), (m1, .inl (cI, 40, .inl mn)), (m2, .inl (cI, 160, .inl tg)), (s1, .inl (cL, 40, .inr (.inl g5))), (v1, .inl (cL, 40, .inr (.inl (vp_updL g2 i 0)))), (h1, .inl (cL, 40, .inr (.inl g3))), (d1, .inl (cL, 40, .inr (.inl g4))), (e1, .inl (cL, 40, .inr (.inl ed)))] H := hP
                  have hD : va_D A [(y, .inr (3, [.int tw, .long T, .ref m1, .ref m2, .int 1, .ref s1, .long re, .long gd, .long e9, .ref v1, .ref h1, .long he, .ref d1, .ref e1, .int pl])), (m1, .inl (cI, 40, .inl mn)), (m2, .inl (cI, 160, .inl tg)), (s1, .inl (cL, 40, .inr (.inl g5))), (v1, .inl (cL, 40, .inr (.inl (vp_updL g2 i 0)))), (h1, .inl (cL, 40, .inr (.inl g3))), (d1, .inl (cL, 40, .inr (.inl g4))), (e1, .inl (cL, 40, .inr (.inl ed)))] := hD
                  refine lv_aload_n hx hb dM_look_133 rfl (lv_at hl 0 rfl) ?_
                  refine va_get (D := (dC, dI)) (ci := 3) (v := .ref h1) (C := RM) (T := TM) (N := 15) hx hb hT inM hown hK hP 0 rfl rfl 10 (by decide) (hT _ hw_348) (fun _ h9 => h9) rfl dM_look_134 ?_
                  refine lv_iload_n hx hb dM_look_137 rfl (lv_at hl 1 rfl) ?_
                  refine lv_lconst (v := 0) hx hb dM_look_138 (by decide) ?_
                  refine bw_last hx hb hK hP hD hS 5 1 (k := i) rfl rfl (by omega) (by decide) dM_look_139 (fun H locs hP hD hS => ?_)
                  have hP : va_P (dC, dI) vwCl [(y, .inr (3, [.int tw, .long T, .ref m1, .ref m2, .int 1, .ref s1, .long re, .long gd, .long e9, .ref v1, .ref h1, .long he, .ref d1, .ref e1, .int pl])), (m1, .inl (cI, 40, .inl mn)), (m2, .inl (cI, 160, .inl tg)), (s1, .inl (cL, 40, .inr (.inl g5))), (v1, .inl (cL, 40, .inr (.inl (vp_updL g2 i 0)))), (h1, .inl (cL, 40, .inr (.inl (vp_updL g3 i 0)))), (d1, .inl (cL, 40, .inr (.inl g4))), (e1, .inl (cL, 40, .inr (.inl ed)))] H := hP
                  have hD : va_D A [(y, .inr (3, [.int tw, .long T, .ref m1, .ref m2, .int 1, .ref s1, .long re, .long gd, .long e9, .ref v1, .ref h1, .long he, .ref d1, .ref e1, .int pl])), (m1, .inl (cI, 40, .inl mn)), (m2, .inl (cI, 160, .inl tg)), (s1, .inl (cL, 40, .inr (.inl g5))), (v1, .inl (cL, 40, .inr (.inl (vp_updL g2 i 0)))), (h1, .inl (cL, 40, .inr (.inl (vp_updL g3 i 0)))), (d1, .inl (cL, 40, .inr (.inl g4))), (e1, .inl (cL, 40, .inr (.inl ed)))] := hD
                  refine lv_aload_n hx hb dM_look_140 rfl (lv_at hl 0 rfl) ?_
                  refine va_get (D := (dC, dI)) (ci := 3) (v := .ref d1) (C := RM) (T := TM) (N := 15) hx hb hT inM hown hK hP 0 rfl rfl 12 (by decide) (hT _ hw_350) (fun _ h9 => h9) rfl dM_look_141 ?_
                  refine lv_iload_n hx hb dM_look_144 rfl (lv_at hl 1 rfl) ?_
                  refine lv_lconst (v := 0) hx hb dM_look_145 (by decide) ?_
                  refine bw_last hx hb hK hP hD hS 6 1 (k := i) rfl rfl (by omega) (by decide) dM_look_146 (fun H locs hP hD hS => ?_)
                  have hP : va_P (dC, dI) vwCl [(y, .inr (3, [.int tw, .long T, .ref m1, .ref m2, .int 1, .ref s1, .long re, .long gd, .long e9, .ref v1, .ref h1, .long he, .ref d1, .ref e1, .int pl])), (m1, .inl (cI, 40, .inl mn)), (m2, .inl (cI, 160, .inl tg)), (s1, .inl (cL, 40, .inr (.inl g5))), (v1, .inl (cL, 40, .inr (.inl (vp_updL g2 i 0)))), (h1, .inl (cL, 40, .inr (.inl (vp_updL g3 i 0)))), (d1, .inl (cL, 40, .inr (.inl (vp_updL g4 i 0)))), (e1, .inl (cL, 40, .inr (.inl ed)))] H := hP
                  have hD : va_D A [(y, .inr (3, [.int tw, .long T, .ref m1, .ref m2, .int 1, .ref s1, .long re, .long gd, .long e9, .ref v1, .ref h1, .long he, .ref d1, .ref e1, .int pl])), (m1, .inl (cI, 40, .inl mn)), (m2, .inl (cI, 160, .inl tg)), (s1, .inl (cL, 40, .inr (.inl g5))), (v1, .inl (cL, 40, .inr (.inl (vp_updL g2 i 0)))), (h1, .inl (cL, 40, .inr (.inl (vp_updL g3 i 0)))), (d1, .inl (cL, 40, .inr (.inl (vp_updL g4 i 0)))), (e1, .inl (cL, 40, .inr (.inl ed)))] := hD
                  refine lv_iinc (v := nI (i + 1)) (lv' := [(1, .int (nI (i + 1))), (0, .ref y), (2, .int (nI j))]) hx hb dM_look_147 hl (k := 1) rfl (nI_1 _) (by decide) rfl (fun ls hl => ?_)
                  refine lv_goto (tgt := 20) hx hb dM_look_150 (by decide) ?_
                  exact ih_20 (i + 1) g5 e9 (vp_updL g2 i 0) (vp_updL g3 i 0) (vp_updL g4 i 0) (by omega) (by omega) (bw_kS_1 hI c_58) (bw_kE_1 hE c_58) (bw_kZ_s hZ2) (bw_kZ_s hZ3) (bw_kZ_s hZ4) H locs hP hD hS ls (lv_sub hl [1, 0] rfl)
                · skip
                  have c_60 := bw_in0 c_60
                  rw [c_58] at c_60; cases c_60
              · skip
                have c_58 := bw_in0 c_58
                have hq9 := hnt i (by omega) c_58
                have hn4 := hq9.1
                refine lv_iload_n hx hb dM_look_46 rfl (lv_at hl 2 rfl) ?_
                refine lv_aload_n hx hb dM_look_47 rfl (lv_at hl 0 rfl) ?_
                refine va_get (D := (dC, dI)) (ci := 3) (v := .ref m1) (C := RM) (T := TM) (N := 15) hx hb hT inM hown hK hP 0 rfl rfl 2 (by decide) (hT _ hw_340) (fun _ h9 => h9) rfl dM_look_48 ?_
                refine lv_iload_n hx hb dM_look_51 rfl (lv_at hl 1 rfl) ?_
                refine bw_iald hx hb hK hP 1 0 (k := i) rfl rfl (by omega) (by decide) dM_look_52 ?_
                rw [hq9.2.1]
                refine lv_icmp_ge (tgt := 93) hx hb dM_look_53 (by decide) (fun c_61 => ?_) (fun c_61 => ?_)
                · skip
                  have c_61 : (n i) ≤ j := (nI_leI (a := (n i)) (b := j) (by omega) (by omega)).mp c_61
                  refine lv_aload_n hx hb dM_look_93 rfl (lv_at hl 0 rfl) ?_
                  refine va_get (D := (dC, dI)) (ci := 3) (v := .long T) (C := RM) (T := TM) (N := 15) hx hb hT inM hown hK hP 0 rfl rfl 1 (by decide) (hT _ hw_339) (fun _ h9 => h9) rfl dM_look_94 ?_
                  refine lv_iload_n hx hb dM_look_97 rfl (lv_at hl 1 rfl) ?_
                  refine vp_callSi (W.runS (As := [.long T, .int (nI i)]) (rest := []) ⟨hx, hb, hml, hown, hT⟩ (m_is l T i (by omega)) (cwS 2 hT g_M_36 rfl rfl rfl (by decide +kernel) ⟨Nat.le_of_ble_eq_true rfl, Nat.le_of_ble_eq_true rfl⟩) preEq rfl rfl hl.1 rfl (lv_room (Nat.le_of_ble_eq_true rfl)) dM_look_98 ⟨Nat.le_of_ble_eq_true rfl, Nat.le_of_ble_eq_true rfl⟩) (fun r_62 hr_62 => ?_)
                  rw [hr_62]; clear hr_62
                  refine lv_if_eq (tgt := 126) hx hb dM_look_101 (by decide) (fun c_63 => ?_) (fun c_63 => ?_)
                  · skip
                    have c_63 := bw_i0.mp c_63
                    rw [c_58] at c_63; cases c_63
                  · skip
                    have c_63 := bw_in0 c_63
                    refine lv_aload_n hx hb dM_look_104 rfl (lv_at hl 0 rfl) ?_
                    refine va_get (D := (dC, dI)) (ci := 3) (v := .ref m1) (C := RM) (T := TM) (N := 15) hx hb hT inM hown hK hP 0 rfl rfl 2 (by decide) (hT _ hw_340) (fun _ h9 => h9) rfl dM_look_105 ?_
                    refine lv_iload_n hx hb dM_look_108 rfl (lv_at hl 1 rfl) ?_
                    refine bw_iald hx hb hK hP 1 0 (k := i) rfl rfl (by omega) (by decide) dM_look_109 ?_
                    rw [hq9.2.1]
                    refine lv_if_ne (tgt := 126) hx hb dM_look_110 (by decide) (fun c_64 => ?_) (fun c_64 => ?_)
                    · skip
                      have c_64 := bw_nI1 c_64
                      refine lv_aload_n hx hb dM_look_126 rfl (lv_at hl 0 rfl) ?_
                      refine va_get (D := (dC, dI)) (ci := 3) (v := .ref v1) (C := RM) (T := TM) (N := 15) hx hb hT inM hown hK hP 0 rfl rfl 9 (by decide) (hT _ hw_347) (fun _ h9 => h9) rfl dM_look_127 ?_
                      refine lv_iload_n hx hb dM_look_130 rfl (lv_at hl 1 rfl) ?_
                      refine lv_lconst (v := 0) hx hb dM_look_131 (by decide) ?_
                      refine bw_last hx hb hK hP hD hS 4 1 (k := i) rfl rfl (by omega) (by decide) dM_look_132 (fun H locs hP hD hS => ?_)
                      have hP : va_P (dC, dI) vwCl [(y, .inr (3, [.int tw, .long T, .ref m1, .ref m2, .int 1, .ref s1, .long re, .long gd, .long e9, .ref v1, .ref h1, .long he, .ref d1, .ref e1, .int pl])), (m1, .inl (cI, 40, .inl mn)), (m2, .inl (cI, 160, .inl tg)), (s1, .inl (cL, 40, .inr (.inl g5))), (v1, .inl (cL, 40, .inr (.inl (vp_updL g2 i 0)))), (h1, .inl (cL, 40, .inr (.inl g3))), (d1, .inl (cL, 40, .inr (.inl g4))), (e1, .inl (cL, 40, .inr (.inl ed)))] H := hP
                      have hD : va_D A [(y, .inr (3, [.int tw, .long T, .ref m1, .ref m2, .int 1, .ref s1, .long re, .long gd, .long e9, .ref v1, .ref h1, .long he, .ref d1, .ref e1, .int pl])), (m1, .inl (cI, 40, .inl mn)), (m2, .inl (cI, 160, .inl tg)), (s1, .inl (cL, 40, .inr (.inl g5))), (v1, .inl (cL, 40, .inr (.inl (vp_updL g2 i 0)))), (h1, .inl (cL, 40, .inr (.inl g3))), (d1, .inl (cL, 40, .inr (.inl g4))), (e1, .inl (cL, 40, .inr (.inl ed)))] := hD
                      refine lv_aload_n hx hb dM_look_133 rfl (lv_at hl 0 rfl) ?_
                      refine va_get (D := (dC, dI)) (ci := 3) (v := .ref h1) (C := RM) (T := TM) (N := 15) hx hb hT inM hown hK hP 0 rfl rfl 10 (by decide) (hT _ hw_348) (fun _ h9 => h9) rfl dM_look_134 ?_
                      refine lv_iload_n hx hb dM_look_137 rfl (lv_at hl 1 rfl) ?_
                      refine lv_lconst (v := 0) hx hb dM_look_138 (by decide) ?_
                      refine bw_last hx hb hK hP hD hS 5 1 (k := i) rfl rfl (by omega) (by decide) dM_look_139 (fun H locs hP hD hS => ?_)
                      have hP : va_P (dC, dI) vwCl [(y, .inr (3, [.int tw, .long T, .ref m1, .ref m2, .int 1, .ref s1, .long re, .long gd, .long e9, .ref v1, .ref h1, .long he, .ref d1, .ref e1, .int pl])), (m1, .inl (cI, 40, .inl mn)), (m2, .inl (cI, 160, .inl tg)), (s1, .inl (cL, 40, .inr (.inl g5))), (v1, .inl (cL, 40, .inr (.inl (vp_updL g2 i 0)))), (h1, .inl (cL, 40, .inr (.inl (vp_updL g3 i 0)))), (d1, .inl (cL, 40, .inr (.inl g4))), (e1, .inl (cL, 40, .inr (.inl ed)))] H := hP
                      have hD : va_D A [(y, .inr (3, [.int tw, .long T, .ref m1, .ref m2, .int 1, .ref s1, .long re, .long gd, .long e9, .ref v1, .ref h1, .long he, .ref d1, .ref e1, .int pl])), (m1, .inl (cI, 40, .inl mn)), (m2, .inl (cI, 160, .inl tg)), (s1, .inl (cL, 40, .inr (.inl g5))), (v1, .inl (cL, 40, .inr (.inl (vp_updL g2 i 0)))), (h1, .inl (cL, 40, .inr (.inl (vp_updL g3 i 0)))), (d1, .inl (cL, 40, .inr (.inl g4))), (e1, .inl (cL, 40, .inr (.inl ed)))] := hD
                      refine lv_aload_n hx hb dM_look_140 rfl (lv_at hl 0 rfl) ?_
                      refine va_get (D := (dC, dI)) (ci := 3) (v := .ref d1) (C := RM) (T := TM) (N := 15) hx hb hT inM hown hK hP 0 rfl rfl 12 (by decide) (hT _ hw_350) (fun _ h9 => h9) rfl dM_look_141 ?_
                      refine lv_iload_n hx hb dM_look_144 rfl (lv_at hl 1 rfl) ?_
                      refine lv_lconst (v := 0) hx hb dM_look_145 (by decide) ?_
                      refine bw_last hx hb hK hP hD hS 6 1 (k := i) rfl rfl (by omega) (by decide) dM_look_146 (fun H locs hP hD hS => ?_)
                      have hP : va_P (dC, dI) vwCl [(y, .inr (3, [.int tw, .long T, .ref m1, .ref m2, .int 1, .ref s1, .long re, .long gd, .long e9, .ref v1, .ref h1, .long he, .ref d1, .ref e1, .int pl])), (m1, .inl (cI, 40, .inl mn)), (m2, .inl (cI, 160, .inl tg)), (s1, .inl (cL, 40, .inr (.inl g5))), (v1, .inl (cL, 40, .inr (.inl (vp_updL g2 i 0)))), (h1, .inl (cL, 40, .inr (.inl (vp_updL g3 i 0)))), (d1, .inl (cL, 40, .inr (.inl (vp_updL g4 i 0)))), (e1, .inl (cL, 40, .inr (.inl ed)))] H := hP
                      have hD : va_D A [(y, .inr (3, [.int tw, .long T, .ref m1, .ref m2, .int 1, .ref s1, .long re, .long gd, .long e9, .ref v1, .ref h1, .long he, .ref d1, .ref e1, .int pl])), (m1, .inl (cI, 40, .inl mn)), (m2, .inl (cI, 160, .inl tg)), (s1, .inl (cL, 40, .inr (.inl g5))), (v1, .inl (cL, 40, .inr (.inl (vp_updL g2 i 0)))), (h1, .inl (cL, 40, .inr (.inl (vp_updL g3 i 0)))), (d1, .inl (cL, 40, .inr (.inl (vp_updL g4 i 0)))), (e1, .inl (cL, 40, .inr (.inl ed)))] := hD
                      refine lv_iinc (v := nI (i + 1)) (lv' := [(1, .int (nI (i + 1))), (0, .ref y), (2, .int (nI j))]) hx hb dM_look_147 hl (k := 1) rfl (nI_1 _) (by decide) rfl (fun ls hl => ?_)
                      refine lv_goto (tgt := 20) hx hb dM_look_150 (by decide) ?_
                      exact ih_20 (i + 1) g5 e9 (vp_updL g2 i 0) (vp_updL g3 i 0) (vp_updL g4 i 0) (by omega) (by omega) (bw_kS_2 hI c_58 (by omega)) (bw_kE_2 hE c_64) (bw_kZ_s hZ2) (bw_kZ_s hZ3) (bw_kZ_s hZ4) H locs hP hD hS ls (lv_sub hl [1, 0] rfl)
                    · skip
                      have c_64 := bw_nI0 (by omega) c_64
                      refine lv_aload_n hx hb dM_look_113 rfl (lv_at hl 0 rfl) ?_
                      refine lv_aload_n hx hb dM_look_114 rfl (lv_at hl 0 rfl) ?_
                      refine va_get (D := (dC, dI)) (ci := 3) (v := .long e9) (C := RM) (T := TM) (N := 15) hx hb hT inM hown hK hP 0 rfl rfl 8 (by decide) (hT _ hw_346) (fun _ h9 => h9) rfl dM_look_115 ?_
                      refine lv_iload_n hx hb dM_look_118 rfl (lv_at hl 1 rfl) ?_
                      refine vp_callSl (W.runS (As := [.int (nI i)]) (rest := [.long e9, .ref y]) ⟨hx, hb, hml, hown, hT⟩ (m_bit l i) (cwS 1 hT g_M_48 rfl rfl rfl (by decide +kernel) ⟨Nat.le_of_ble_eq_true rfl, Nat.le_of_ble_eq_true rfl⟩) preEq rfl rfl hl.1 rfl (lv_room (Nat.le_of_ble_eq_true rfl)) dM_look_119 ⟨Nat.le_of_ble_eq_true rfl, Nat.le_of_ble_eq_true rfl⟩) (fun r_65 hr_65 => ?_)
                      rw [hr_65]; clear hr_65
                      refine lv_lor hx hb dM_look_122 ?_
                      refine va_put (D := (dC, dI)) (ci := 3) (v := .long (e9 ||| (bw_b i))) (ty := .long) (C := RM) (T := TM) (N := 15) hx hb hT inM tyM tokM nmM hown hK hP hD hS 0 rfl rfl 8 (by decide) (hT _ hw_346) (fun _ h9 => h9) rfl (by decide +kernel) rfl rfl (Nat.le_of_ble_eq_true rfl) dM_look_123 (fun H locs hP hD hS => ?_)
                      have hP : va_P (dC, dI) vwCl [(y, .inr (3, [.int tw, .long T, .ref m1, .ref m2, .int 1, .ref s1, .long re, .long gd, .long (e9 ||| (bw_b i)), .ref v1, .ref h1, .long he, .ref d1, .ref e1, .int pl])), (m1, .inl (cI, 40, .inl mn)), (m2, .inl (cI, 160, .inl tg)), (s1, .inl (cL, 40, .inr (.inl g5))), (v1, .inl (cL, 40, .inr (.inl g2))), (h1, .inl (cL, 40, .inr (.inl g3))), (d1, .inl (cL, 40, .inr (.inl g4))), (e1, .inl (cL, 40, .inr (.inl ed)))] H := hP
                      have hD : va_D A [(y, .inr (3, [.int tw, .long T, .ref m1, .ref m2, .int 1, .ref s1, .long re, .long gd, .long (e9 ||| (bw_b i)), .ref v1, .ref h1, .long he, .ref d1, .ref e1, .int pl])), (m1, .inl (cI, 40, .inl mn)), (m2, .inl (cI, 160, .inl tg)), (s1, .inl (cL, 40, .inr (.inl g5))), (v1, .inl (cL, 40, .inr (.inl g2))), (h1, .inl (cL, 40, .inr (.inl g3))), (d1, .inl (cL, 40, .inr (.inl g4))), (e1, .inl (cL, 40, .inr (.inl ed)))] := hD
                      refine lv_aload_n hx hb dM_look_126 rfl (lv_at hl 0 rfl) ?_
                      refine va_get (D := (dC, dI)) (ci := 3) (v := .ref v1) (C := RM) (T := TM) (N := 15) hx hb hT inM hown hK hP 0 rfl rfl 9 (by decide) (hT _ hw_347) (fun _ h9 => h9) rfl dM_look_127 ?_
                      refine lv_iload_n hx hb dM_look_130 rfl (lv_at hl 1 rfl) ?_
                      refine lv_lconst (v := 0) hx hb dM_look_131 (by decide) ?_
                      refine bw_last hx hb hK hP hD hS 4 1 (k := i) rfl rfl (by omega) (by decide) dM_look_132 (fun H locs hP hD hS => ?_)
                      have hP : va_P (dC, dI) vwCl [(y, .inr (3, [.int tw, .long T, .ref m1, .ref m2, .int 1, .ref s1, .long re, .long gd, .long (e9 ||| (bw_b i)), .ref v1, .ref h1, .long he, .ref d1, .ref e1, .int pl])), (m1, .inl (cI, 40, .inl mn)), (m2, .inl (cI, 160, .inl tg)), (s1, .inl (cL, 40, .inr (.inl g5))), (v1, .inl (cL, 40, .inr (.inl (vp_updL g2 i 0)))), (h1, .inl (cL, 40, .inr (.inl g3))), (d1, .inl (cL, 40, .inr (.inl g4))), (e1, .inl (cL, 40, .inr (.inl ed)))] H := hP
                      have hD : va_D A [(y, .inr (3, [.int tw, .long T, .ref m1, .ref m2, .int 1, .ref s1, .long re, .long gd, .long (e9 ||| (bw_b i)), .ref v1, .ref h1, .long he, .ref d1, .ref e1, .int pl])), (m1, .inl (cI, 40, .inl mn)), (m2, .inl (cI, 160, .inl tg)), (s1, .inl (cL, 40, .inr (.inl g5))), (v1, .inl (cL, 40, .inr (.inl (vp_updL g2 i 0)))), (h1, .inl (cL, 40, .inr (.inl g3))), (d1, .inl (cL, 40, .inr (.inl g4))), (e1, .inl (cL, 40, .inr (.inl ed)))] := hD
                      refine lv_aload_n hx hb dM_look_133 rfl (lv_at hl 0 rfl) ?_
                      refine va_get (D := (dC, dI)) (ci := 3) (v := .ref h1) (C := RM) (T := TM) (N := 15) hx hb hT inM hown hK hP 0 rfl rfl 10 (by decide) (hT _ hw_348) (fun _ h9 => h9) rfl dM_look_134 ?_
                      refine lv_iload_n hx hb dM_look_137 rfl (lv_at hl 1 rfl) ?_
                      refine lv_lconst (v := 0) hx hb dM_look_138 (by decide) ?_
                      refine bw_last hx hb hK hP hD hS 5 1 (k := i) rfl rfl (by omega) (by decide) dM_look_139 (fun H locs hP hD hS => ?_)
                      have hP : va_P (dC, dI) vwCl [(y, .inr (3, [.int tw, .long T, .ref m1, .ref m2, .int 1, .ref s1, .long re, .long gd, .long (e9 ||| (bw_b i)), .ref v1, .ref h1, .long he, .ref d1, .ref e1, .int pl])), (m1, .inl (cI, 40, .inl mn)), (m2, .inl (cI, 160, .inl tg)), (s1, .inl (cL, 40, .inr (.inl g5))), (v1, .inl (cL, 40, .inr (.inl (vp_updL g2 i 0)))), (h1, .inl (cL, 40, .inr (.inl (vp_updL g3 i 0)))), (d1, .inl (cL, 40, .inr (.inl g4))), (e1, .inl (cL, 40, .inr (.inl ed)))] H := hP
                      have hD : va_D A [(y, .inr (3, [.int tw, .long T, .ref m1, .ref m2, .int 1, .ref s1, .long re, .long gd, .long (e9 ||| (bw_b i)), .ref v1, .ref h1, .long he, .ref d1, .ref e1, .int pl])), (m1, .inl (cI, 40, .inl mn)), (m2, .inl (cI, 160, .inl tg)), (s1, .inl (cL, 40, .inr (.inl g5))), (v1, .inl (cL, 40, .inr (.inl (vp_updL g2 i 0)))), (h1, .inl (cL, 40, .inr (.inl (vp_updL g3 i 0)))), (d1, .inl (cL, 40, .inr (.inl g4))), (e1, .inl (cL, 40, .inr (.inl ed)))] := hD
                      refine lv_aload_n hx hb dM_look_140 rfl (lv_at hl 0 rfl) ?_
                      refine va_get (D := (dC, dI)) (ci := 3) (v := .ref d1) (C := RM) (T := TM) (N := 15) hx hb hT inM hown hK hP 0 rfl rfl 12 (by decide) (hT _ hw_350) (fun _ h9 => h9) rfl dM_look_141 ?_
                      refine lv_iload_n hx hb dM_look_144 rfl (lv_at hl 1 rfl) ?_
                      refine lv_lconst (v := 0) hx hb dM_look_145 (by decide) ?_
                      refine bw_last hx hb hK hP hD hS 6 1 (k := i) rfl rfl (by omega) (by decide) dM_look_146 (fun H locs hP hD hS => ?_)
                      have hP : va_P (dC, dI) vwCl [(y, .inr (3, [.int tw, .long T, .ref m1, .ref m2, .int 1, .ref s1, .long re, .long gd, .long (e9 ||| (bw_b i)), .ref v1, .ref h1, .long he, .ref d1, .ref e1, .int pl])), (m1, .inl (cI, 40, .inl mn)), (m2, .inl (cI, 160, .inl tg)), (s1, .inl (cL, 40, .inr (.inl g5))), (v1, .inl (cL, 40, .inr (.inl (vp_updL g2 i 0)))), (h1, .inl (cL, 40, .inr (.inl (vp_updL g3 i 0)))), (d1, .inl (cL, 40, .inr (.inl (vp_updL g4 i 0)))), (e1, .inl (cL, 40, .inr (.inl ed)))] H := hP
                      have hD : va_D A [(y, .inr (3, [.int tw, .long T, .ref m1, .ref m2, .int 1, .ref s1, .long re, .long gd, .long (e9 ||| (bw_b i)), .ref v1, .ref h1, .long he, .ref d1, .ref e1, .int pl])), (m1, .inl (cI, 40, .inl mn)), (m2, .inl (cI, 160, .inl tg)), (s1, .inl (cL, 40, .inr (.inl g5))), (v1, .inl (cL, 40, .inr (.inl (vp_updL g2 i 0)))), (h1, .inl (cL, 40, .inr (.inl (vp_updL g3 i 0)))), (d1, .inl (cL, 40, .inr (.inl (vp_updL g4 i 0)))), (e1, .inl (cL, 40, .inr (.inl ed)))] := hD
                      refine lv_iinc (v := nI (i + 1)) (lv' := [(1, .int (nI (i + 1))), (0, .ref y), (2, .int (nI j))]) hx hb dM_look_147 hl (k := 1) rfl (nI_1 _) (by decide) rfl (fun ls hl => ?_)
                      refine lv_goto (tgt := 20) hx hb dM_look_150 (by decide) ?_
                      exact ih_20 (i + 1) g5 (e9 ||| (bw_b i)) (vp_updL g2 i 0) (vp_updL g3 i 0) (vp_updL g4 i 0) (by omega) (by omega) (bw_kS_2 hI c_58 (by omega)) (bw_kE_3 hE (by omega) c_58 c_64) (bw_kZ_s hZ2) (bw_kZ_s hZ3) (bw_kZ_s hZ4) H locs hP hD hS ls (lv_sub hl [1, 0] rfl)
                · skip
                  have c_61 : ¬ (n i) ≤ j := fun z => c_61 ((nI_leI (a := (n i)) (b := j) (by omega) (by omega)).mpr z)
                  refine lv_aload_n hx hb dM_look_56 rfl (lv_at hl 0 rfl) ?_
                  refine va_get (D := (dC, dI)) (ci := 3) (v := .ref s1) (C := RM) (T := TM) (N := 15) hx hb hT inM hown hK hP 0 rfl rfl 5 (by decide) (hT _ hw_343) (fun _ h9 => h9) rfl dM_look_57 ?_
                  refine lv_iload_n hx hb dM_look_60 rfl (lv_at hl 1 rfl) ?_
                  refine lv_aload_n hx hb dM_look_61 rfl (lv_at hl 0 rfl) ?_
                  refine va_get (D := (dC, dI)) (ci := 3) (v := .ref s1) (C := RM) (T := TM) (N := 15) hx hb hT inM hown hK hP 0 rfl rfl 5 (by decide) (hT _ hw_343) (fun _ h9 => h9) rfl dM_look_62 ?_
                  refine lv_iload_n hx hb dM_look_65 rfl (lv_at hl 1 rfl) ?_
                  refine bw_lald hx hb hK hP 3 1 (k := i) rfl rfl (by omega) (by decide) dM_look_66 ?_
                  refine lv_aload_n hx hb dM_look_67 rfl (lv_at hl 0 rfl) ?_
                  refine va_get (D := (dC, dI)) (ci := 3) (v := .ref m2) (C := RM) (T := TM) (N := 15) hx hb hT inM hown hK hP 0 rfl rfl 3 (by decide) (hT _ hw_341) (fun _ h9 => h9) rfl dM_look_68 ?_
                  refine lv_iconst (v := nI 4) hx hb dM_look_71 (by decide) ?_
                  refine lv_iload_n hx hb dM_look_72 rfl (lv_at hl 1 rfl) ?_
                  refine lv_imul hx hb dM_look_73 ?_
                  rw [pk_mul 4 i]
                  refine lv_iload_n hx hb dM_look_74 rfl (lv_at hl 2 rfl) ?_
                  refine lv_iadd hx hb dM_look_75 ?_
                  rw [nI_add (4 * i) j]
                  refine bw_iald hx hb hK hP 2 0 (k := (4 * i + j)) rfl rfl (by omega) (by decide) dM_look_76 ?_
                  rw [(hq9.2.2 j (by omega)).1]
                  refine vp_callSl (W.runS (As := [.int (nI (t i j))]) (rest := [.long (g5 i), .int (nI i), .ref s1]) ⟨hx, hb, hml, hown, hT⟩ (m_bit l (t i j)) (cwS 1 hT g_M_48 rfl rfl rfl (by decide +kernel) ⟨Nat.le_of_ble_eq_true rfl, Nat.le_of_ble_eq_true rfl⟩) preEq rfl rfl hl.1 rfl (lv_room (Nat.le_of_ble_eq_true rfl)) dM_look_77 ⟨Nat.le_of_ble_eq_true rfl, Nat.le_of_ble_eq_true rfl⟩) (fun r_66 hr_66 => ?_)
                  rw [hr_66]; clear hr_66
                  refine lv_aload_n hx hb dM_look_80 rfl (lv_at hl 0 rfl) ?_
                  refine va_get (D := (dC, dI)) (ci := 3) (v := .long T) (C := RM) (T := TM) (N := 15) hx hb hT inM hown hK hP 0 rfl rfl 1 (by decide) (hT _ hw_339) (fun _ h9 => h9) rfl dM_look_81 ?_
                  refine lv_land hx hb dM_look_84 ?_
                  refine lv_lor hx hb dM_look_85 ?_
                  refine bw_last hx hb hK hP hD hS 3 1 (k := i) rfl rfl (by omega) (by decide) dM_look_86 (fun H locs hP hD hS => ?_)
                  have hP : va_P (dC, dI) vwCl [(y, .inr (3, [.int tw, .long T, .ref m1, .ref m2, .int 1, .ref s1, .long re, .long gd, .long e9, .ref v1, .ref h1, .long he, .ref d1, .ref e1, .int pl])), (m1, .inl (cI, 40, .inl mn)), (m2, .inl (cI, 160, .inl tg)), (s1, .inl (cL, 40, .inr (.inl (vp_updL g5 i ((g5 i) ||| ((bw_b (t i j)) &&& T)))))), (v1, .inl (cL, 40, .inr (.inl g2))), (h1, .inl (cL, 40, .inr (.inl g3))), (d1, .inl (cL, 40, .inr (.inl g4))), (e1, .inl (cL, 40, .inr (.inl ed)))] H := hP
                  have hD : va_D A [(y, .inr (3, [.int tw, .long T, .ref m1, .ref m2, .int 1, .ref s1, .long re, .long gd, .long e9, .ref v1, .ref h1, .long he, .ref d1, .ref e1, .int pl])), (m1, .inl (cI, 40, .inl mn)), (m2, .inl (cI, 160, .inl tg)), (s1, .inl (cL, 40, .inr (.inl (vp_updL g5 i ((g5 i) ||| ((bw_b (t i j)) &&& T)))))), (v1, .inl (cL, 40, .inr (.inl g2))), (h1, .inl (cL, 40, .inr (.inl g3))), (d1, .inl (cL, 40, .inr (.inl g4))), (e1, .inl (cL, 40, .inr (.inl ed)))] := hD
                  refine lv_iinc (v := nI (j + 1)) (lv' := [(2, .int (nI (j + 1))), (0, .ref y), (1, .int (nI i))]) hx hb dM_look_87 hl (k := 2) rfl (nI_1 _) (by decide) rfl (fun ls hl => ?_)
                  refine lv_goto (tgt := 35) hx hb dM_look_90 (by decide) ?_
                  exact ih_35 (j + 1) (vp_updL g5 i ((g5 i) ||| ((bw_b (t i j)) &&& T))) (by omega) (by omega) (bw_kI_s hI c_58 (by omega) (hq9.2.2 j (by omega)).2) H locs hP hD hS ls (lv_sub hl [1, 2, 0] rfl)
          exact loop_35 5 0 (vp_updL g1 i 0) (by omega) (by omega) (bw_kI_0 hS9) H locs hP hD hS ls (lv_sub hl [1, 2, 0] rfl)
    exact loop_20 41 0 ms 0 ov be rd (by omega) (by omega) (bw_kS_0) (bw_kE_0) (bw_kZ_0) (bw_kZ_0) (bw_kZ_0) H locs hP hD hS ls (lv_sub hl [1, 0] rfl)
  · skip
    obtain ⟨ekn, hMk⟩ := hkn.resolve_left c_1
    subst ekn
    have hP9 := hP.sub (ws' := [(y, .inr (3, [.int tw, .long T, .ref m1, .ref m2, .int 1, .ref s1, .long re, .long gd, .long en, .ref v1, .ref h1, .long he, .ref d1, .ref e1, .int pl])), (m1, .inl (cI, 40, .inl mn)), (m2, .inl (cI, 160, .inl tg)), (s1, .inl (cL, 40, .inr (.inl ms))), (v1, .inl (cL, 40, .inr (.inl ov))), (h1, .inl (cL, 40, .inr (.inl be))), (d1, .inl (cL, 40, .inr (.inl rd))), (e1, .inl (cL, 40, .inr (.inl ed)))]) [0, 1, 2, 3, 4, 5, 6, 7] rfl
    have hD9 := hD.sub (ws' := [(y, .inr (3, [.int tw, .long T, .ref m1, .ref m2, .int 1, .ref s1, .long re, .long gd, .long en, .ref v1, .ref h1, .long he, .ref d1, .ref e1, .int pl])), (m1, .inl (cI, 40, .inl mn)), (m2, .inl (cI, 160, .inl tg)), (s1, .inl (cL, 40, .inr (.inl ms))), (v1, .inl (cL, 40, .inr (.inl ov))), (h1, .inl (cL, 40, .inr (.inl be))), (d1, .inl (cL, 40, .inr (.inl rd))), (e1, .inl (cL, 40, .inr (.inl ed)))]) [0, 1, 2, 3, 4, 5, 6, 7] (by decide) rfl
    exact W.vret hx hb hr (fun t9 ht9 hW9 => ⟨⟨(ms, re, gd, en, ov, be, he, rd, ed, pl), rfl, hMk, by rw [ht9]; exact hP9, hD9⟩, hS.F ht9⟩) hS.2.2 dM_look_7
