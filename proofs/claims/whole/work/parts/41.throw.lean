/-! throw: NoSuchElementException made and thrown by BlockWays.inner, no traces kept -/
section BWT
abbrev RN : String := "java/util/NoSuchElementException"
/-- the words of the throw -/
def bwX : List Cond := Bundle.ownAtomsX RB 130 RN 13 prog_12_method_4_code ["java/lang/RuntimeException", "java/lang/Exception"]
/-- what kinds of words they are -/
def bw_kx : Cond → Bool
  | .castable _ _ => true
  | .declares _ => true
  | .laysStatic _ _ _ => true
  | .isRef (.static _ _ _) => true
  | w => goodWord w
theorem bw_kxs : bwX.all bw_kx = true := by decide +kernel
/-- those that the tables hold; the two others are of the start -/
def bw_st : Cond → Bool
  | .isRef (.static _ _ _) => true
  | _ => false
theorem bw_xin : (bwX.all fun w => bw_st w || decide (w ∈ lw_tbl)) = true := by decide +kernel
theorem bw_x0 : decode prog_12_method_4_code 0 = .ok (.aload_n 0, 1) := by decide +kernel
theorem bw_x1 : decode prog_12_method_4_code 1 = .ok (.aload_n 1, 1) := by decide +kernel
theorem bw_x2 : decode prog_12_method_4_code 2 = .ok (.invokespecial 13, 3) := by decide +kernel
theorem bw_x5 : decode prog_12_method_4_code 5 = .ok (.return_, 1) := by decide +kernel
end BWT
section BWU
variable {p : Program} {l : Launch} {e : Env} {R : Room} {s : State} {m : MethodId} {args : Array Value} {below : List Frame} {meth : Method} {c : Code} {W0 : State} {locs : List Loc} {cells slots : Nat}
set_option maxHeartbeats 4000000 in
theorem bw_ctor (X : Stand p l e R s m args below meth c W0 locs cells slots) (hx : p.tables.exec = Jvm.exec) (htr : e.platform.stackTraces = false) (hown : s.vm.findClass RB = some m.cls) (h : ∀ w ∈ bwX, w.before args s = true)
    (hlocs : ∀ x ∈ locs, ∀ cell, s.heap[x.base]? = some cell → cell.vm.isStatics = false) {a : Addr} {cX : ClassId} {kX : Class} (hfX : s.vm.findClass RN = some cX) (hkX : s.vm.classes[cX]? = some kX) (hcell : W0.heap[a]? = some (freshCell cX kX)) (hnew : s.heap.size ≤ a)
    {g : JFrame} (hg : g.method = m) (hsize : g.locals.size = c.maxLocals) (hlocked : g.locked = none) (hent : g.entered = []) {q : Nat} (hst : g.stack = [.ref q, .ref a, .ref a]) (hd1 : decode c.code g.pc = .ok (.invokespecial 130, 3)) (hd2 : decode c.code (g.pc + 3) = .ok (.athrow, 1)) (hout : ∀ x ∈ c.exceptionTable.toList, covers x (g.pc + 3) = false)
    (hRf : 5 < R.frames) (hRl : 2 * g.monitorRoom + 82 ≤ R.locals) (hlocks : meth.locks = false) :
    ∃ U : State, Steps p.tables e below (W0.setTop g) U ∧ U.status = .running ∧ Ended U below (.threw a) ∧ s.WarmedH U.vm ∧ s.sameButNew ({ U with vm := s.vm } : State) locs cells slots ∧ U.heap.size = W0.heap.size ∧ (∀ i : Nat, i ≠ a → U.heap[i]? = W0.heap[i]?) ∧ ∃ ce : Cell, U.heap[a]? = some ce ∧ ce.cls = cX ∧ ce.vm = .none := by
  have hpl : e.platform.magicAccessors = ({} : Platform).magicAccessors := by rw [X.admits.platform]
  have hh : ∀ w, w ∈ bwX → w.holds args s none s [] = true := fun w hw => h w hw
  have i1 : ∀ w ∈ Bundle.throwableAtoms, w ∈ bwX := fun w hw => by simp [bwX, Bundle.ownAtomsX, hw]
  have i2 : ∀ w ∈ Bundle.throwableSAtoms, w ∈ bwX := fun w hw => by simp [bwX, Bundle.ownAtomsX, hw]
  have i3 : ∀ w ∈ Bundle.chainSAtomsX RN 13 prog_12_method_4_code ["java/lang/RuntimeException", "java/lang/Exception"], w ∈ bwX := fun w hw => by simp only [bwX, Bundle.ownAtomsX, List.mem_append]; exact Or.inl (Or.inr hw)
  obtain ⟨T, Z0, L, -, Y⟩ := ThrowableC.of_atoms (args := args) (by rw [X.admits.platform]) (by rw [X.admits.platform]) hpl (fun w hw => h w (i1 w hw))
  obtain ⟨Z, M, LZ, LM, hnZ⟩ := Init0T.ofS_atoms (args := args) hpl L Y (fun w hw => h w (i2 w hw))
  obtain ⟨P1, Ps, hlen, L1, hL, hP1, hk1, hk2⟩ := Bundle.chainSX (args := args) hpl hnZ bw_x0 bw_x1 bw_x2 bw_x5 ["java/lang/RuntimeException", "java/lang/Exception"] RN (by decide +kernel) (by decide +kernel) (fun w hw => h w (i3 w hw))
  have hf1 : s.vm.findClass RN = some P1.m.cls := findClass_of_methodNamed hP1
  cases Option.some.inj (hfX.symm.trans hf1)
  obtain ⟨c1, kX', hc1, hk, hord, -, -, hn6⟩ := Cond.instantiable_spec (hh (.instantiable RN 6) (by simp [bwX, Bundle.ownAtomsX]))
  cases Option.some.inj (hc1.symm.trans hf1)
  cases Option.some.inj (hkX.symm.trans hk)
  have hsel : ∀ (y : MethodName) (r : MethodId), (Cond.selects RN y y).before args s = true → y.cls ≠ "java/lang/invoke/MethodHandle" ∧ y.cls ≠ "java/lang/invoke/VarHandle" → s.methodNamed? y = some r → selectMethod e.platform s.vm P1.m.cls r = .method r := by
    intro y r hw hy hr
    obtain ⟨c2, r2, m2, q1, q2, q3, q4, -⟩ := Cond.selects_spec hw
    cases Option.some.inj (q1.symm.trans hf1)
    cases Option.some.inj (q2.symm.trans (State.methodFound?_of_named hr hy))
    cases Option.some.inj (q3.symm.trans hr)
    rw [Launch.admits_selectMethod X.admits]; exact q4
  obtain ⟨cS, hcS, hiss⟩ := Y.statics
  obtain ⟨u0, hu0⟩ := Cond.staticRefV Y.unassigned L.unassignedStatic L.statics hcS hiss (hh (.isRef (.static Bundle.tN "UNASSIGNED_STACK" Bundle.steD)) (by simp [bwX, Bundle.ownAtomsX]))
  obtain ⟨sen, hsen⟩ := Cond.staticRefV Y.sentinel L.sentinelStatic L.statics hcS hiss (hh (.isRef (.static Bundle.tN "SUPPRESSED_SENTINEL" Bundle.listD)) (by simp [bwX, Bundle.ownAtomsX]))
  obtain ⟨ci198, i198, fB, b1, b2, b3, b4, -, b5, b6, b7⟩ := Cond.ownField (t := .object "java/lang/Object") Y.found L.cls (by decide +kernel) (hh (.fieldLink Bundle.tN 198 Bundle.tN "backtrace" "Ljava/lang/Object;") (by simp [bwX, Bundle.ownAtomsX])) (hh (.lays Bundle.tN Bundle.tN "backtrace" "Ljava/lang/Object;") (by simp [bwX, Bundle.ownAtomsX])) e.platform hpl
  obtain ⟨cW, hcW, eW, -, hkeep⟩ := X.same.2.2.2.2.2 T.aS cS hcS
  have hcW : W0.heap[T.aS]? = some cW := hcW
  have hnin : ∀ i, (⟨T.aS, i⟩ : Loc) ∉ locs := fun i hm => by
    have := hlocs _ hm cS hcS
    rw [hiss] at this; cases this
  have hkn : cW.vm ≠ .unknown := fun hu => by
    rw [eW] at hu
    rw [hu] at hiss
    cases hiss
  have hneS : T.aS ≠ a := Nat.ne_of_lt (Nat.lt_of_lt_of_le (Array.getElem?_eq_some_iff.mp hcS).1 hnew)
  obtain ⟨iM, hffM⟩ := Y.msg
  obtain ⟨tC, dC, hdC, nC⟩ := Cond.laysAt hf1 hk Y.cause (hh (.lays RN Bundle.tN "cause" "Ljava/lang/Throwable;") (by simp [bwX, Bundle.ownAtomsX]))
  obtain ⟨tS, dS, hdS, nS⟩ := Cond.laysAt hf1 hk Y.stack (hh (.lays RN Bundle.tN "stackTrace" Bundle.steD) (by simp [bwX, Bundle.ownAtomsX]))
  obtain ⟨tP, dP, hdP, nP⟩ := Cond.laysAt hf1 hk Y.supp (hh (.lays RN Bundle.tN "suppressedExceptions" Bundle.listD) (by simp [bwX, Bundle.ownAtomsX]))
  obtain ⟨tM, dM, hdM, nM⟩ := Cond.laysAt hf1 hk hffM (hh (.lays RN Bundle.tN "detailMessage" "Ljava/lang/String;") (by simp [bwX, Bundle.ownAtomsX]))
  obtain ⟨tB, dB, hdB, nB⟩ := Cond.laysAt hf1 hk b7 (hh (.lays RN Bundle.tN "backtrace" "Ljava/lang/Object;") (by simp [bwX, Bundle.ownAtomsX]))
  have x1 := Cond.laysApart hdB hdC nB nC (by rw [b5, Y.causeName]; decide)
  have x2 := Cond.laysApart hdB hdS nB nS (by rw [b5, Y.stackName]; decide)
  have x3 := Cond.laysApart hdB hdP nB nP (by rw [b5, Y.suppName]; decide)
  have hskip : SkipFacts T e.platform s (fun u => u) u0 ((preparedCellV T.toThrowableT (freshCell P1.m.cls kX) a u0 sen).withEntry W0.cur) := by
    refine ⟨{ ci198 := ci198, i198 := i198, fBack := fB }, ⟨b1, b2, b3, b4⟩, ?_, fun _ _ => rfl⟩
    have z := fresh_default (c := P1.m.cls) tB
    rw [b6] at z
    simpa [preparedCellV, Cell.setSlot, Cell.withEntry, Array.getElem?_setIfInBounds, x1, x2, x3, x1.symm, x2.symm, x3.symm, defaultValue] using z
  obtain ⟨tm, methC, cdC, kC, vm₁, hnC, -, -, -, -, -, -, -, hW₁, st1⟩ := Steps.initColdS (tb := p.tables) (e := e) (below := below) (s := s) (U := W0) X.here hx X.warmed hpl hown (t := Bundle.initS RN) rfl rfl (by decide +kernel)
    (hh (.methodLink RB 130 (Bundle.initS RN)) (by simp [bwX, Bundle.ownAtomsX])) (h (.instanceMethod (Bundle.initS RN)) (i3 _ (by simp [Bundle.chainSAtomsX, Bundle.passSAtoms]))) (bytes := prog_12_method_4_code) (maxL := 2) (h (.code (Bundle.initS RN) prog_12_method_4_code 2 none) (i3 _ (by simp [Bundle.chainSAtomsX, Bundle.passSAtoms])))
    (f := g) hg (a := a) (msg := .ref q) (rest := [.ref a]) hst hd1
  cases Option.some.inj (hnC.symm.trans hP1)
  obtain ⟨vm₂, X₂, st2⟩ := (X.noted hW₁).ctorMessageOffV hx (g := { g with stack := [.ref a] }) hg hsize T L Z LZ M LM (P1 :: Ps)
    (fun P hP => by rcases List.mem_cons.mp hP with rfl | hP; exact L1; exact hL P hP) ⟨hk1, hk2⟩ (u0 := u0) (sen := sen) (self := a) (msg := .ref q) rfl (cell := freshCell P1.m.cls kX) (cellS := cW)
    hcell (fun _ => by simp) (by simp) rfl rfl (hsel _ _ (hh (.selects RN Bundle.tFill0 Bundle.tFill0) (by simp [bwX, Bundle.ownAtomsX])) (by decide +kernel) Y.fill0) (hsel _ _ (hh (.selects RN Bundle.tFill Bundle.tFill) (by simp [bwX, Bundle.ownAtomsX])) (by decide +kernel) Y.fill) hcW hneS hkn (by rw [hkeep _ (hnin _)]; exact hu0) (by rw [hkeep _ (hnin _)]; exact hsen)
    (Takes.of_laid hk hord tC (by rw [Y.causeType]; rfl)) (Takes.of_laid hk hord tS (by rw [Y.stackType]; exact fits_refV_array _ u0)) (Takes.of_laid hk hord tP (by rw [Y.suppType]; exact fits_refV_object _ sen))
    (Takes.of_laid hk hord tM (by rw [Y.msgType]; exact fits_refV_object _ ⟨.ref q, rfl⟩)) Y.objLocals hskip htr [] hd1
    (by simp only [List.length_cons, hlen, List.length_nil]; omega) (by simp only [List.length_cons, hlen, List.length_nil, List.map_cons, List.map_nil, List.sum_cons, List.sum_nil]; exact Nat.le_trans (by show 2 * g.monitorRoom + (1 + 0) + (13 * 3 + 42) ≤ 2 * g.monitorRoom + 82; omega) hRl)
  obtain ⟨w1, w2, w3, w4, w5⟩ := X₂.athrowLeaves hx (g := { g with stack := [.ref a], pc := g.pc + 3 }) hg hlocked hent hout (a := a) (rest := []) rfl hd2 hlocks
  have hlt : a < ((W0.setVm vm₁).setVm vm₂).heap.size := (Array.getElem?_eq_some_iff.mp hcell).1
  refine ⟨_, st1 _ (fun acts => ?_), w2, w3, w4, w5.weaken (fun y hy hy2 => ?_) (Nat.le_refl _) (Nat.le_refl _), ?_, fun i hi => ?_, _, heapAt_setCell_self (s := (W0.setVm vm₁).setVm vm₂) (plainBareV T.toThrowableT (freshCell P1.m.cls kX) a u0 sen (.ref q)) hlt, rfl, rfl⟩
  · rw [doInvoke_state]
    exact st2 _ w1
  · rcases List.mem_append.mp hy with z | z
    · exact z
    · exfalso
      have hb9 : y.base = a := by
        simp only [List.mem_cons, List.not_mem_nil, or_false] at z
        rcases z with rfl | rfl | rfl | rfl | rfl <;> rfl
      rw [hb9] at hy2
      exact Nat.not_lt.mpr hnew hy2
  · show (((W0.setVm vm₁).setVm vm₂).heap.setIfInBounds a _).size = _
    rw [Array.size_setIfInBounds]; rfl
  · show (((W0.setVm vm₁).setVm vm₂).heap.setIfInBounds a _)[i]? = _
    rw [Array.getElem?_setIfInBounds_ne (fun z => hi z.symm)]; rfl
end BWU
