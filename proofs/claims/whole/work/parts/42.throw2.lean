/-! the throw in a walk; a callee that throws; the catch; a call of a method with an exception table -/
theorem bw_kx_inv {w : Cond} (h : bw_kx w = true) : goodWord w = true ∨ (∃ C T, w = .castable C T) ∨ (∃ y, w = .declares y) ∨ (∃ C n d, w = .laysStatic C n d) ∨ ∃ C n d, w = .isRef (.static C n d) := by
  unfold bw_kx at h
  split at h
  · exact Or.inr (Or.inl ⟨_, _, rfl⟩)
  · exact Or.inr (Or.inr (Or.inl ⟨_, rfl⟩))
  · exact Or.inr (Or.inr (Or.inr (Or.inl ⟨_, _, _, rfl⟩)))
  · exact Or.inr (Or.inr (Or.inr (Or.inr ⟨_, _, _, rfl⟩)))
  · exact Or.inl h
abbrev bw_tx : String := "the block is in no round"
/-- what a throw asks of a state: its words held at some earlier state, whose cells are as they were -/
def bw_th (U : State) : Prop := ∃ (s0 : State) (A0 : Array Value), (∀ w ∈ bwX, w.before A0 s0 = true) ∧ (∃ q, vk_R RB 128 bw_tx q s0) ∧ s0.WarmedH U.vm ∧ ∀ q : Nat, q < s0.heap.size → U.heap[q]? = s0.heap[q]?
theorem bw_th.words {U : State} (h : bw_th U) (A : Array Value) : ∀ w ∈ bwX, w.before A U = true := by
  obtain ⟨s0, A0, h1, -, hW, hq⟩ := h
  intro w hw
  have b := h1 w hw
  rcases bw_kx_inv (List.all_eq_true.mp bw_kxs w hw) with g | ⟨C, T, rfl⟩ | ⟨y, rfl⟩ | ⟨C, n, d, rfl⟩ | ⟨C, n, d, rfl⟩
  · exact word_at hW (good_of_word g) b
  · exact va_Nw.use rfl (va_Nw.warmC hW (va_Nw.of rfl b))
  · exact va_Nw.use rfl (va_Nw.warmD hW (va_Nw.of rfl b))
  · obtain ⟨c, k, i, f, a, cell, hc, hf, hst, hsta, hcell, hiss, hcls, hlt, hty⟩ := Cond.laysStatic_spec b
    obtain ⟨k', hi', he⟩ := State.fieldFound?_setVm hW.alike hf
    have h2 : U.fieldFound? C n d = some (c, k', i, f) := hi'
    have h3 : U.vm.findClass C = some c := by rw [hW.alike.findClass]; exact hc
    have h4 : k'.statics = some a := by rw [he]; exact hsta
    have h5 : k'.staticTypes[f.slot]? = some f.type := by rw [he]; exact hty
    have h6 : U.heap[a]? = some cell := by rw [hq a (Array.getElem?_eq_some_iff.mp hcell).1]; exact hcell
    simp [Cond.before, Cond.holds, Cond.value, h2, h3, h4, h5, h6, hst, hiss, hcls, hlt]
  · have e9 : (Term.static C n d).eval A U none [] U = (Term.static C n d).eval A0 s0 none [] s0 := by
      cases hv : (Term.static C n d).eval A0 s0 none [] s0 with
      | none => simp [Cond.before, Cond.holds, Cond.value, hv] at b
      | some v =>
        cases hf : s0.fieldFound? C n d with
        | none => simp [Term.eval, State.fieldNamed?, hf] at hv
        | some x =>
          obtain ⟨c, k, i, f⟩ := x
          obtain ⟨hst, a, cell, ha, hcell, hiss, hslot⟩ := Term.static_spec hf hv
          obtain ⟨k', hi', he⟩ := State.fieldFound?_setVm hW.alike hf
          have h2 : U.fieldFound? C n d = some (c, k', i, f) := hi'
          have h4 : k'.statics = some a := by rw [he]; exact ha
          have h6 : U.heap[a]? = some cell := by rw [hq a (Array.getElem?_eq_some_iff.mp hcell).1]; exact hcell
          have h7 : cell.vm.isStatics = true := by
            cases hz : cell.vm.isStatics with
            | true => rfl
            | false => simp [Term.eval, State.fieldNamed?, hf, hst, ha, hcell, hz] at hv
          simp [Term.eval, State.fieldNamed?, h2, hst, h4, h6, h7, hslot]
    simp only [Cond.before, Cond.holds, Cond.value, e9]
    simpa only [Cond.before, Cond.holds, Cond.value] using b
theorem bw_th.str {U : State} (h : bw_th U) : ∃ q, vk_R RB 128 bw_tx q U := by
  obtain ⟨s0, A0, -, ⟨q, hq⟩, hW, -⟩ := h
  exact ⟨q, vk_R.warm hW hq⟩
theorem bw_th.call {U : State} {g : JFrame} {mk : MethodId} {a : Array Value} (h : bw_th U) : bw_th (U.calling g mk a) := by
  obtain ⟨s0, A0, h1, h2, h3, h4⟩ := h
  exact ⟨s0, A0, h1, h2, h3, h4⟩
theorem bw_th.warm {s U : State} (hW : s.WarmedH U.vm) (hH : U.heap = s.heap) (h : bw_th s) : bw_th U := by
  obtain ⟨s0, A0, h1, h2, h3, h4⟩ := h
  exact ⟨s0, A0, h1, h2, State.WarmedH.trans h3 hW, fun q hq => by rw [hH]; exact h4 q hq⟩
/-- a throwing end -/
def bw_Qt {S : Type} (B : S → State → Prop) (A : Nat → Prop) : Array Value → State → Outcome → State → Prop := fun _ st oc t => (∃ (q : Nat) (u : S) (ce : Cell), oc = .threw q ∧ t.heap[q]? = some ce ∧ st.vm.findClass RN = some ce.cls ∧ ce.vm = .none ∧ B u t) ∧ va_F A st t
def bw_MetT (l : Launch) (y : MethodName) (ws : List Cond) (rm : Room) (Pc : Array Value → State → Prop) (Qc : Array Value → State → Outcome → State → Prop) (mc ms : Nat) (free : Addr → Prop) : Prop :=
  MetFree l y (headSpec ws rm) Pc (fun _ _ _ _ _ => True) (fun a st o t => Qc a st o t ∧ ∃ L, FrameEndT st o t L mc ms ∧ ∀ q ∈ L, free q.base)
def bw_MQT (below : List Frame) (Qc : Array Value → State → Outcome → State → Prop) (a : Array Value) (s : State) (mc ms : Nat) (free : Addr → Prop) : State → Prop := fun t =>
  ∃ o, t.status = .running ∧ Ended t below o ∧ Qc a s o t ∧ ∃ L, FrameEndT s o t L mc ms ∧ ∀ q ∈ L, free q.base
section BWM
variable {l : Launch}
theorem bw_MetT.ofW {y : MethodName} {ws ws' : List Cond} {rm : Room} {Pc : Array Value → State → Prop} {Qc : Array Value → State → Outcome → State → Prop} {mc ms : Nat} {free : Addr → Prop} {cc : ByteArray} {maxL : Nat} {ret : Option FieldType}
    (hy : plainName y.cls = true) (hw : ws = Cond.code y cc maxL ret :: ws')
    (body : ∀ p e s m args below meth c s₁, BodyLoose p l y (headSpec ws rm) cc maxL ret e s m args below meth c s₁ → c.maxLocals = maxL → Pc args s →
      W p l e (headSpec ws rm).room s m args below meth c s.heap [] 0 0 (bw_MQT below Qc args s mc ms free) (entryFrame m args maxL)) : bw_MetT l y ws rm Pc Qc mc ms free := by
  refine MetFree.of_bodyS (code := cc) (maxLocals := maxL) (ret := ret) hy ?_ ?_
  · intro args s m h hn
    obtain ⟨meth, c, h1, h2, h3, h4, h5, h6, -, -⟩ := Cond.code_spec hn (atoms_spec (ws := ws) h _ (by rw [hw]; exact List.mem_cons_self))
    exact ⟨meth, c, h1, h2, h3, h4, h5, h6⟩
  · intro p e s m args below meth c s₁ B hml hP _
    obtain ⟨t, a1, o, b1, b2, b3⟩ := body p e s m args below meth c s₁ B hml hP s₁ (by rw [B.state]; rfl) (Stand.of_body B)
    exact ⟨t, o, a1, b1, b2, b3⟩
end BWM
theorem bw_at_lt {D : va_G} {cl : List vw_C} {q : Nat × va_E} {H : Heap} (h : va_at D cl q H) : ∃ cell : Cell, H[q.1]? = some cell ∧ cell.vm.isStatics = false := by
  obtain ⟨a, e⟩ := q
  cases e with
  | inl x =>
    obtain ⟨cA, n, f⟩ := x
    refine ⟨_, h, ?_⟩
    unfold vp_cell
    split <;> rfl
  | inr o =>
    obtain ⟨r, -, cell, g1, -, g3, -⟩ := h
    exact ⟨cell, g1, by rw [g3]; rfl⟩
section BWV
variable {p : Program} {l : Launch} {e : Env} {R : Room} {s : State} {m : MethodId} {args : Array Value} {below : List Frame} {meth : Method} {c : Code} {H : Heap} {locs : List Loc} {cells slots : Nat} {Q : State → Prop}
variable {ls : Array Slot} {D : va_G} {cl : List vw_C} {A : Nat → Prop} {ws ws1 : va_W}
set_option maxHeartbeats 1000000 in
/-- BlockWays.inner's throw, from its new -/
theorem bw_thr (hx : p.tables.exec = Jvm.exec) (hb : c.code = cB_inner) (hfl : l.stackTraces = false) (hml : c.maxLocals = 3) (hls : ls.size = 3) (hown : s.vm.findClass RB = some m.cls) (hT : ∀ w ∈ bwB, w.before args s = true) (hth : bw_th s) (hno : c.exceptionTable.isEmpty = true) (hlocks : meth.locks = false)
    (hP0 : va_P D cl ws s.heap) (hAe : va_A ws s.heap.size = A) (hS : va_S A s.heap H locs) (hP : va_P D cl ws1 H) (hD : va_D A ws1) (hRf : 5 < R.frames) (hRl : 82 ≤ R.locals) (hRc : cells + 1 ≤ R.cells) (hRs : slots + 6 ≤ R.slots) :
    W p l e R s m args below meth c H locs cells slots (bw_MQT below (bw_Qt (fun (_ : Unit) t => va_P D cl ws1 t.heap ∧ va_D A ws1) A) args s (cells + 1) (slots + 6) A) (F0 m 25 ls []) := by
  intro T hT0 X
  obtain ⟨vm', cC, kC, hfC, hkC, -, -, X1, st⟩ := X.newCold hx hown (hT _ hw_266) (hT _ hw_267) (hT _ hw_27) (g := F0 m 25 ls []) rfl (by rw [hb]; exact dB_inner_25) hRc hRs
  obtain ⟨qs, hqs⟩ := hth.str
  have K : W p l e R s m args below meth c ((T.setVm vm').pushCell { cls := cC, slots := kC.instanceTypes.map defaultValue, vm := .none }).heap locs (cells + 1) (slots + 6) (bw_MQT below (bw_Qt (fun (_ : Unit) t => va_P D cl ws1 t.heap ∧ va_D A ws1) A) args s (cells + 1) (slots + 6) A) (F0 m 28 ls [.ref T.heap.size]) := by
    refine lv_dup hx hb dB_inner_28 rfl ?_
    refine va_ldcS hx hb hown hqs dB_inner_29 ?_
    intro T2 hT2 X2
    have hcell : T2.heap[T.heap.size]? = some (freshCell cC kC) := by rw [hT2]; exact State.heap_pushCell_size (T.setVm vm') _
    have hlow : ∀ i : Nat, i < T.heap.size → T2.heap[i]? = T.heap[i]? := fun i hi => by rw [hT2]; show (T.heap.push _)[i]? = _; rw [Array.getElem?_push, if_neg (Nat.ne_of_lt hi)]
    have hsz2 : T2.heap.size = T.heap.size + 1 := by rw [hT2]; show (T.heap.push _).size = _; rw [Array.size_push]
    obtain ⟨U, g1, g2, g3, g4, g5, g6, g7, ce, g8, g9, g10⟩ := bw_ctor X2 hx (by rw [X.admits.platform]; exact hfl) hown (hth.words _)
      (fun y hy cell hc9 => by
        have h9 : va_A ws s.heap.size y.base := by rw [hAe]; exact hS.2.2 y hy
        rcases h9 with ⟨k, e9, hk⟩ | h9
        · obtain ⟨cell2, g1, g2⟩ := bw_at_lt (hP0 k _ hk)
          cases Option.some.inj (hc9.symm.trans g1)
          exact g2
        · rw [Array.getElem?_eq_none h9] at hc9; cases hc9)
      hfC hkC hcell (by rw [hT0]; exact hS.1) (g := F0 m 31 ls [.ref qs, .ref T.heap.size, .ref T.heap.size]) rfl (hls.trans hml.symm) rfl rfl (q := qs) rfl (by rw [hb]; exact dB_inner_31) (by rw [hb]; exact dB_inner_34)
      (fun y hy => by
        have : c.exceptionTable = #[] := Array.isEmpty_iff.mp hno
        rw [this] at hy
        simp at hy) hRf (by show 2 * 0 + 82 ≤ R.locals; omega) hlocks
    have hk9 : ∀ i : Nat, i < H.size → U.heap[i]? = H[i]? := fun i hi => by
      rw [← hT0] at hi ⊢
      rw [g7 i (Nat.ne_of_lt hi), hlow i hi]
    have hz9 : H.size ≤ U.heap.size := by rw [g6, hsz2, ← hT0]; omega
    refine ⟨U, g1, .threw T.heap.size, g2, g3, ⟨⟨T.heap.size, (), ce, rfl, g8, by rw [g9]; exact hfC, g10, hP.kept (fun k q hk => ?_), hD⟩, Nat.le_trans hS.1 hz9, fun q hq hA9 => ?_⟩, locs, ⟨⟨_, rfl⟩, g4, g5⟩, hS.2.2⟩
    · obtain ⟨cell, q1, -⟩ := bw_at_lt (hP k q hk)
      exact hk9 _ (Array.getElem?_eq_some_iff.mp q1).1
    · rw [hk9 q (Nat.lt_of_lt_of_le hq hS.1)]
      exact hS.2.1 q hq hA9
  obtain ⟨t, a1, b1⟩ := K _ rfl X1
  exact ⟨t, st t a1, b1⟩
end BWV
