/-! a callee that throws, caught; a static call of a method with an exception table -/
section BWC
variable {p : Program} {l : Launch} {e : Env} {R : Room} {s : State} {m : MethodId} {args : Array Value} {below : List Frame} {meth : Method} {c : Code} {H : Heap} {locs : List Loc} {cells slots : Nat} {Q : State → Prop}
variable {ls : Array Slot}
def bw_PostT (Qc : Array Value → State → Outcome → State → Prop) (mc ms : Nat) (free : Addr → Prop) : Pt → Array Value → Addr → Pt → Prop := fun A a v B =>
  ∃ (g : JFrame) (mk : MethodId) (t : State) (L : List Loc), B.U.heap = t.heap ∧ Qc a (A.U.calling g mk a) (.threw v) t ∧ B.locs = A.locs ++ L ∧ (∀ q ∈ L, free q.base) ∧ B.cells = A.cells + mc ∧ B.slots = A.slots + ms
set_option maxHeartbeats 1000000 in
/-- BlockWaysLaw.inner: its call of BlockWays.inner throws; its handler -/
theorem bw_catch {S : Type} {B : S → State → Prop} {A0 A1 : Nat → Prop} {H0 : Heap} {rm : Room} {Pc : Array Value → State → Prop} {mc ms : Nat} {free : Addr → Prop} {b : Nat} {v : Int32} {rest : List Value}
    (hx : p.tables.exec = Jvm.exec) (hb : c.code = cL_inner) (hml : c.maxLocals = 4) (hls : ls.size = 4) (hown : s.vm.findClass RL = some m.cls) (hT : ∀ w ∈ bwB, w.before args s = true) (hth : bw_th s)
    (hex : c.exceptionTable.toList.map (fun h => (h.startPc, h.endPc, h.handlerPc, h.catchType)) = [(0, 9, 12, 13)])
    (hM : bw_MetT l yB_inner wsB_inner rm Pc (bw_Qt B A1) mc ms free) (cw : CallW R s args RL RB 7 yB_inner cB_inner 3 (some .int) wsB_inner rm mc ms 1) (hp : PreV s H RB b Pc [.int v]) (hf : cells + mc ≤ R.cells ∧ slots + ms ≤ R.slots) (hW8 : (rest.map fun v => v.category).sum ≤ 8)
    (hS : va_S A0 H0 H locs) (hA : ∀ q, q < H.size → A1 q → A0 q) (hfr : ∀ q, free q → A0 q)
    (kk : ∀ (u : S) (t : State) (H1 : Heap) (locs1 : List Loc) (qx : Nat), t.heap = H1 → B u t → H.size ≤ H1.size → (∀ q : Nat, q < H.size → ¬ A1 q → H1[q]? = H[q]?) → va_S A0 H0 H1 locs1 → W p l e R s m args below meth c H1 locs1 (cells + mc) (slots + ms) Q (F0 m 12 ls [.ref qx])) :
    W p l e R s m args below meth c H locs cells slots Q (F0 m 4 ls (.int v :: .ref b :: rest)) := by
  obtain ⟨⟨hrc, hrs, hfr1, hlo, hws, hcw, hcode, hini, hy, hlen, hl⟩, hin, hse⟩ := cw
  obtain ⟨hbl, ⟨cellB, hcB, hoB, hclB⟩, hPc⟩ := hp
  have hK : BackT l R p e below s args yB_inner 3 8 (PreOf R mc ms Pc) (bw_PostT (bw_Qt B A1) mc ms free) := by
    refine BackT.of_free (S := headSpec wsB_inner rm) (P := Pc) (K := fun _ _ _ _ _ => True) (Q := fun a st o t => bw_Qt B A1 a st o t ∧ ∃ L, FrameEndT st o t L mc ms ∧ ∀ q ∈ L, free q.base) (bytes := cB_inner) (maxL := 3) (ret := some .int)
      (E := fun a st o t L k n => k = mc ∧ n = ms ∧ ∀ q ∈ L, free q.base) hM hfr1 hlo ?_ ?_ (fun _ _ _ _ _ _ _ _ _ => trivial) ?_ ?_
    · intro m meth c A a X hp
      exact ⟨atoms_intro fun w hw => hws w hw _ _ X.warmed, hws _ hcw _ _ X.warmed, word_at X.warmed (Or.inl (by first | rfl | simp [Cond.onTables, Cond.keeps, Cond.steady])) hini, by rw [show (headSpec wsB_inner rm).room.cells = mc from hrc]; exact hp.1, by rw [show (headSpec wsB_inner rm).room.slots = ms from hrs]; exact hp.2.1⟩
    · intro m meth c A a g mk X hp
      exact hbl _ _ _ _ hp.2.2
    · intro a st o t ⟨hq, L, hF, hL⟩
      exact ⟨L, mc, ms, hF, rfl, rfl, hL⟩
    · intro m meth c A a g mk v t L k n X hp hq hF ⟨e1, e2, hL⟩
      subst e1; subst e2
      exact ⟨g, mk, t, L, rfl, hq.1, rfl, hL, rfl, rfl⟩
  intro T hT0 X
  obtain ⟨mk, methM, hnamed, hmethM, hstM, habM⟩ := Cond.instanceMethod_spec hin
  obtain ⟨methM', cM, hmethM', -, -, -, -, -, -, hsigM⟩ := Cond.code_spec hnamed hcode
  cases hmethM.symm.trans hmethM'
  obtain ⟨c2, r2, m2, q1, q2, q3, q4, kP, hkP, hkPi⟩ := Cond.selects_spec hse
  cases hclB.symm.trans q1
  cases (State.methodFound?_of_named hnamed hy).symm.trans q2
  cases hnamed.symm.trans q3
  obtain ⟨vm₁, X₁, hstep₁⟩ := X.invokevirtual hx hown hl hnamed hmethM hstM hkP hkPi hy (a := b) (cell := cellB) (by rw [hT0]; exact hcB)
    (fun z h => by rw [h] at hoB; cases hoB) (by rw [Launch.admits_selectMethod X.admits]; exact q4) hmethM habM hkP hkPi (g := F0 m 4 ls (.int v :: .ref b :: rest)) rfl (argsL := [.int v]) (rest := rest) (hlen _ hsigM) rfl (by rw [hb]; exact dL_inner_4)
  obtain ⟨qx, ⟨U, l2, c2, s2⟩, X', ⟨g', mk', t, L, e1, ⟨⟨q, u, ce, hq1, hq2, hq3, hq4, hB⟩, hz, hk⟩, h1, hL, h2, h3⟩, hsteps⟩ := hK m meth c ⟨T.setVm vm₁, locs, cells, slots⟩ (F0 m 4 ls rest) (.invokevirtual 7) mk (Value.ref b :: [.int v]).toArray X₁ rfl (hls.trans hml.symm) (by rw [hb]; exact dL_inner_4)
    (by show 2 * 0 + (rest.map fun v => v.category).sum ≤ 8; omega) (X₁.named hnamed) ⟨hf.1, hf.2, hPc (T.setVm vm₁) hT0 X₁.warmed⟩
  cases hq1
  dsimp only [Pt.U, Pt.locs, Pt.cells, Pt.slots] at X' e1 h1 h2 h3 hsteps
  subst h1; subst h2; subst h3
  have hz : H.size ≤ t.heap.size := by rw [← hT0]; exact hz
  have hk : ∀ i : Nat, i < H.size → ¬ A1 i → t.heap[i]? = H[i]? := by rw [← hT0]; exact hk
  obtain ⟨x, hxl, hx4⟩ : ∃ x, c.exceptionTable.toList = [x] ∧ (x.startPc, x.endPc, x.handlerPc, x.catchType) = (0, 9, 12, 13) := by
    cases hE : c.exceptionTable.toList with
    | nil => rw [hE] at hex; cases hex
    | cons y r =>
      rw [hE] at hex
      cases r with
      | nil => exact ⟨y, rfl, by simpa using hex⟩
      | cons z r => simp at hex
  simp only [Prod.mk.injEq] at hx4
  obtain ⟨x1, x2, x3, x4⟩ := hx4
  have hfN : s.vm.findClass RN = some ce.cls := by rw [← X₁.warmed.alike.findClass]; exact hq3
  obtain ⟨c5, c6, y1, y2, y3⟩ := Cond.castable_spec (hth.words args (.castable RN RN) (by simp [bwX, Bundle.ownAtomsX]))
  cases Option.some.inj (y1.symm.trans hfN)
  cases Option.some.inj (y2.symm.trans hfN)
  obtain ⟨hend, hk0⟩ := X'.catches_of_link (own := RL) (name := RN) hown (x := x) (by rw [x4]; decide) (by rw [x4]; exact hT _ hw_256) hfN y3
  obtain ⟨vm', X2, st2⟩ := X'.thenCaughtThrough qx (g := F0 m 4 ls rest) rfl hsteps (cell := ce) (by rw [e1]; exact hq2) (by rw [hq4]; rfl) hk0 [] x [] (by rw [hxl]; rfl) (fun y hy => nomatch hy) (by show (decide (x.startPc ≤ 4) && decide (4 < x.endPc)) = true; rw [x1, x2]; rfl) hend
  have hfrm : ({ F0 m 4 ls rest with pc := x.handlerPc, stack := [.ref qx] } : JFrame) = F0 m 12 ls [.ref qx] := by rw [x3]
  rw [hfrm] at st2
  obtain ⟨t9, a1, b1⟩ := kk u t U.heap (locs ++ L) qx e1.symm hB (by rw [e1]; exact hz) (fun i h1 h2 => by rw [e1]; exact hk i h1 h2)
    ⟨Nat.le_trans hS.1 (by rw [e1]; exact hz), fun i h1 h2 => by rw [e1, hk i (Nat.lt_of_lt_of_le h1 hS.1) (fun z => h2 (hA i (Nat.lt_of_lt_of_le h1 hS.1) z))]; exact hS.2.1 i h1 h2, fun i hi => by
      rcases List.mem_append.mp hi with h | h
      · exact hS.2.2 i h
      · exact hfr _ (hL i h)⟩ (U.setVm vm') rfl X2
  exact ⟨t9, (hstep₁ _ fun acts => by rw [doInvoke_state]; exact st2).trans a1, b1⟩
/-- a static method with an exception table, called -/
theorem bw_runSW {y : MethodName} {bytes cc : ByteArray} {maxL nL mc ms n index : Nat} {ret : Option FieldType} {hh : List (Nat × Nat × Nat × Nat)} {ws ws' : List Cond} {rm : Room} {Pc : Array Value → State → Prop} {Qc : Array Value → State → Outcome → State → Prop} {free : Addr → Prop} {own : String} {As rest : List Value} {g : JFrame}
    (Sx : CallFix p m c cc nL s args bwB own) (hM : Met l y ws rm Pc Qc mc ms free) (hG : ∀ w ∈ ws, w ∈ bwB) (hw : ws = Cond.codeWith y bytes maxL ret hh :: ws') (hrc : rm.cells = mc) (hrs : rm.slots = ms) (hl : (Cond.methodLink own index y).before args s = true) (hini : (Cond.initialized y.cls).before args s = true) (hst : (Cond.static y).before args s = true)
    (hd : y.cls ≠ "java/lang/invoke/MethodHandle" ∧ y.cls ≠ "java/lang/invoke/VarHandle" ∧ (parseMethodDescriptor y.desc).map (fun d => d.parameters.length) = some n) (hR : rm.frames + 1 ≤ R.frames ∧ 8 + (maxL + 11) + rm.locals ≤ R.locals) (hp : PreS s H Pc As)
    (hg : g.method = m) (hn : As.length = n) (hsize : g.locals.size = nL) (hstack : g.stack = As.reverse ++ rest) (hW : 2 * g.monitorRoom + (rest.map fun v => v.category).sum ≤ 8) (hdg : decode cc g.pc = .ok (.invokestatic index, 3)) (hf : cells + mc ≤ R.cells ∧ slots + ms ≤ R.slots) :
    va_Run p l e R s m args below meth c H locs cells slots mc ms g rest (Qc As.toArray) free := by
  obtain ⟨hx, hb, hml, ho, ht⟩ := Sx
  have hc : Cond.codeWith y bytes maxL ret hh ∈ ws := by rw [hw]; exact List.mem_cons_self
  have hK : Back l R p e below s args y 3 8 (PreOf R mc ms Pc) (PostOf Qc mc ms free) := va_backW (hh := hh) (bytes := bytes) (maxL := maxL) (ret := ret) hM hp.1 hrc hrs hR.1 hR.2 (pay_in ht (bw_gi hG)) hc (fun a' U hW9 => word_at hW9 (Or.inl (by first | rfl | simp [Cond.onTables, Cond.keeps, Cond.steady])) hini)
  intro T hT X
  obtain ⟨mk, methM, cM, hnamed, hmethM, -, -, -, -, -, -, hsigM⟩ := Cond.codeWith_spec (ht _ (hG _ hc))
  obtain ⟨kP, hkP, -⟩ := className_of_methodNamed hnamed
  have hlen : As.length = methM.sig.parameters.length := by
    have h2 := hd.2.2
    rw [hsigM] at h2
    rw [hn]
    exact (Option.some.inj h2).symm
  obtain ⟨vm₁, X₁, hstep₁⟩ := X.invokestatic hx ho hl hnamed hmethM (Cond.static_spec hnamed hmethM hst) hkP (Cond.initialized_spec (findClass_of_methodNamed hnamed) hkP hini) ⟨hd.1, hd.2.1⟩ (g := g) hg (argsL := As) (rest := rest) hlen hstack (by rw [hb]; exact hdg)
  obtain ⟨v, ⟨U', l2, c2, s2⟩, X', ⟨g', mk', t, L, e1, e2, hq, h1, hL, h2, h3⟩, hsteps⟩ := hK m meth c ⟨T.setVm vm₁, locs, cells, slots⟩ { g with stack := rest } (.invokestatic index) mk As.toArray X₁ hg (hsize.trans hml.symm) (by rw [hb]; exact hdg) hW (X₁.named hnamed) ⟨hf.1, hf.2, hp.2 (T.setVm vm₁) hT X₁.warmed⟩
  dsimp only [Pt.U, Pt.locs, Pt.cells, Pt.slots] at X' e1 e2 h1 h2 h3 hsteps
  subst h1; subst h2; subst h3
  exact ⟨v, (T.setVm vm₁).calling g' mk' As.toArray, t, U', L, hT, X', hL, e1, e2, hq, fun target h => hstep₁ _ fun acts => by rw [doInvoke_state]; exact hsteps.trans h⟩
end BWC
