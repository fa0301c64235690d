theorem bw_fl_s {st : Nat → Int64} {al f o : Int64} {n : Nat} (h : bw_lo o < 40) : bw_fl st al (n + 1) f o = bw_fl st al n (f ||| ((st (bw_lo o) &&& al) &&& (f ^^^ (-1)))) ((o &&& (bw_b (bw_lo o) ^^^ (-1))) ||| ((st (bw_lo o) &&& al) &&& (f ^^^ (-1)))) := if_pos h
theorem bw_fl_x {st : Nat → Int64} {al f o : Int64} {n : Nat} (h : ¬ bw_lo o < 40) : bw_fl st al n f o = f := by
  cases n with
  | zero => rfl
  | succ n => exact if_neg h
theorem bw_out_0 (sb : Nat → Int64) (b : Nat) : bw_out sb b 0 = sb := funext fun j => if_neg (by omega)
theorem bw_out_s (sb : Nat → Int64) (b n : Nat) : vp_updL (bw_out sb b n) n (bw_out sb b n n &&& (bw_b b ^^^ (-1))) = bw_out sb b (n + 1) := funext fun j => by
  by_cases e : j = n
  · subst e
    rw [pk_uLs]
    unfold bw_out
    rw [if_neg (by omega), if_pos (by omega)]
  · rw [pk_uLn e]
    unfold bw_out
    by_cases h : j < n
    · rw [if_pos h, if_pos (by omega)]
    · rw [if_neg h, if_neg (by omega)]
/-- a row whose first n are G's -/
def bw_up (G g : Nat → Int64) (n : Nat) : Nat → Int64 := fun j => if j < n then G j else g j
theorem bw_up_0 (G g : Nat → Int64) : bw_up G g 0 = g := funext fun j => if_neg (by omega)
theorem bw_up_s (G g : Nat → Int64) (n : Nat) {x : Int64} (hx : x = G n) : vp_updL (bw_up G g n) n x = bw_up G g (n + 1) := funext fun j => by
  subst hx
  by_cases e : j = n
  · subst e
    rw [pk_uLs]
    unfold bw_up
    rw [if_pos (by omega)]
  · rw [pk_uLn e]
    unfold bw_up
    by_cases h : j < n
    · rw [if_pos h, if_pos (by omega)]
    · rw [if_neg h, if_neg (by omega)]
theorem bw_up_at {G g : Nat → Int64} {n j : Nat} (h : j < n) : bw_up G g n j = G j := if_pos h
theorem bw_max {a b : Nat} (ha : a < 2 ^ 31) (hb : b < 2 ^ 31) : (if nI a < nI b then nI b else nI a) = nI (if a < b then b else a) := by
  by_cases h : a < b
  · rw [if_pos h, if_pos ((nI_ltI ha hb).mpr h)]
  · rw [if_neg h, if_neg (fun z => h ((nI_ltI ha hb).mp z))]
/-- the smallest round so far -/
def bw_sR (bl : Nat → Int64) (b i : Nat) (hd : Int32) (fw : Nat) : Prop := (bw_sm bl b i = none ∧ hd = -1 ∧ fw = 41) ∨ ∃ j, bw_sm bl b i = some j ∧ hd = nI j ∧ fw = bw_c (bl j) 40
theorem bw_sR_0 (bl : Nat → Int64) (b : Nat) : bw_sR bl b 0 (-1) 41 := Or.inl ⟨rfl, rfl, rfl⟩
theorem bw_sR_le {bl : Nat → Int64} {b i : Nat} {hd : Int32} {fw : Nat} (h : bw_sR bl b i hd fw) : fw ≤ 41 := by
  rcases h with ⟨-, -, h⟩ | ⟨j, -, -, h⟩
  · omega
  · have := bw_c_le (bl j) 40; omega
theorem bw_sR_t {bl : Nat → Int64} {b i : Nat} {hd : Int32} {fw : Nat} (h : bw_sR bl b i hd fw) (h1 : bw_m (bl i) b = true) (h2 : ¬ fw ≤ bw_c (bl i) 40) : bw_sR bl b (i + 1) (nI i) (bw_c (bl i) 40) := by
  refine Or.inr ⟨i, ?_, rfl, rfl⟩
  unfold bw_sm
  rcases h with ⟨e, -, -⟩ | ⟨j, e, -, e3⟩
  · rw [e]; simp [h1]
  · rw [e]
    have : bw_c (bl i) 40 < bw_c (bl j) 40 := by omega
    simp [h1, this]
theorem bw_sR_f {bl : Nat → Int64} {b i : Nat} {hd : Int32} {fw : Nat} (h : bw_sR bl b i hd fw) (h1 : bw_m (bl i) b = false) : bw_sR bl b (i + 1) hd fw := by
  rcases h with ⟨e, e2, e3⟩ | ⟨j, e, e2, e3⟩
  · refine Or.inl ⟨?_, e2, e3⟩
    unfold bw_sm
    rw [e]; simp [h1]
  · refine Or.inr ⟨j, ?_, e2, e3⟩
    unfold bw_sm
    rw [e]; simp [h1]
theorem bw_sR_g {bl : Nat → Int64} {b i : Nat} {hd : Int32} {fw : Nat} (h : bw_sR bl b i hd fw) (h2 : fw ≤ bw_c (bl i) 40) : bw_sR bl b (i + 1) hd fw := by
  have hc := bw_c_le (bl i) 40
  rcases h with ⟨e, e2, e3⟩ | ⟨j, e, e2, e3⟩
  · omega
  · refine Or.inr ⟨j, ?_, e2, e3⟩
    unfold bw_sm
    rw [e]
    have : ¬ bw_c (bl i) 40 < bw_c (bl j) 40 := by omega
    simp [this]
theorem bw_sR_h {bl : Nat → Int64} {b i : Nat} {hd : Int32} {fw : Nat} (h : bw_sR bl b i hd fw) : hd = bw_h (bw_sm bl b i) := by
  rcases h with ⟨e, e2, -⟩ | ⟨j, e, e2, -⟩
  · rw [e, e2]; rfl
  · rw [e, e2]; rfl
theorem bw_c40 {x : Int64} (h : ∀ i, bw_m x i = true → i < 40) : bw_c x 64 = bw_c x 40 := bw_c_cut (fun i hi => by
  cases hx : bw_m x i with
  | false => rfl
  | true => exact absurd (h i hx) (by omega)) 64 (by omega)
theorem bw_nzT {x : Int64} (h : ¬ x = 0) : (!decide (x = 0)) = true := by rw [decide_eq_false h]; rfl
theorem bw_nzF {x : Int64} (h : x = 0) : (!decide (x = 0)) = false := by rw [decide_eq_true h]; rfl
theorem bw_nearA_0 {gt : Nat → Int64} {k i : Nat} {acc : Int64} (ea : acc = bw_A (bw_m (bw_gates gt k &&& (bw_b k ^^^ (-1)))) gt (bw_gates gt k &&& (bw_b k ^^^ (-1))) i) (hi : i = 40) (z : acc = 0) : (-1 : Int32) = bw_nearA gt k := by
  subst hi
  have e9 : acc = bw_near gt k := ea
  unfold bw_nearA
  rw [← e9, if_pos z]
theorem bw_nearA_1 {gt : Nat → Int64} {k i : Nat} {acc : Int64} (ea : acc = bw_A (bw_m (bw_gates gt k &&& (bw_b k ^^^ (-1)))) gt (bw_gates gt k &&& (bw_b k ^^^ (-1))) i) (hi : i = 40) (z : ¬ acc = 0) : nI (bw_lo acc) = bw_nearA gt k := by
  subst hi
  have e9 : acc = bw_near gt k := ea
  unfold bw_nearA
  rw [← e9, if_neg z]
theorem bw_cAl {D : va_G} {cl : List vw_C} {tys : List (ClassId × FieldType)} {U : State} (hK : va_K D cl tys U) (i j : Nat) {c1 c2 : ClassId} (hi : tys[i]? = some (c1, .long)) (hj : tys[j]? = some (c2, .long)) : c1 = c2 := by
  have h1 : U.vm.findClass ("[" ++ FieldType.long.toString) = some c1 := (hK.2 i _ hi).2
  have h2 : U.vm.findClass ("[" ++ FieldType.long.toString) = some c2 := (hK.2 j _ hj).2
  exact Option.some.inj (h1.symm.trans h2)
theorem bw_cAi {D : va_G} {cl : List vw_C} {tys : List (ClassId × FieldType)} {U : State} (hK : va_K D cl tys U) (i j : Nat) {c1 c2 : ClassId} (hi : tys[i]? = some (c1, .int)) (hj : tys[j]? = some (c2, .int)) : c1 = c2 := by
  have h1 : U.vm.findClass ("[" ++ FieldType.int.toString) = some c1 := (hK.2 i _ hi).2
  have h2 : U.vm.findClass ("[" ++ FieldType.int.toString) = some c2 := (hK.2 j _ hj).2
  exact Option.some.inj (h1.symm.trans h2)
section BWK
variable {p : Program} {l : Launch} {e : Env} {R : Room} {s : State} {m : MethodId} {args : Array Value} {below : List Frame} {meth : Method} {c : Code} {H : Heap} {locs : List Loc} {cells slots : Nat}
/-- a private static method of a nest mate, called with at most k words below its arguments -/
theorem bw_runSNk {y : MethodName} {bytes cc : ByteArray} {maxL nL mc ms index : Nat} {ret : Option FieldType} {ws ws' : List Cond} {rm : Room} {Pc : Array Value → State → Prop} {Qc : Array Value → State → Outcome → State → Prop} {free : Addr → Prop} {Ts : List Cond} {own host : String} {As rest : List Value} {g : JFrame} (k n : Nat)
    (S : CallFix p m c cc nL s args Ts own) (hM : Met l y ws rm Pc Qc mc ms free) (hG : GoodIn Ts ws) (hw : ws = Cond.code y bytes maxL ret :: ws') (hrc : rm.cells = mc) (hrs : rm.slots = ms) (hl : va_Nw (.methodLinkNest own index y host) s) (hini : (Cond.initialized y.cls).before args s = true)
    (hd : y.cls ≠ "java/lang/invoke/MethodHandle" ∧ y.cls ≠ "java/lang/invoke/VarHandle" ∧ (parseMethodDescriptor y.desc).map (fun d => d.parameters.length) = some n) (hR : rm.frames + 1 ≤ R.frames ∧ k + (maxL + 11) + rm.locals ≤ R.locals) (hst : (Cond.static y).before args s = true) (hp : PreS s H Pc As)
    (hg : g.method = m) (hn : As.length = n) (hsize : g.locals.size = nL) (hstack : g.stack = As.reverse ++ rest) (hW : 2 * g.monitorRoom + (rest.map fun v => v.category).sum ≤ k) (hdg : decode cc g.pc = .ok (.invokestatic index, 3)) (hf : cells + mc ≤ R.cells ∧ slots + ms ≤ R.slots) :
    CallRun p l e R s m args below meth c H locs cells slots mc ms g rest (Qc As.toArray) free := by
  obtain ⟨hx, hb, hml, ho, ht⟩ := S
  have hc : Cond.code y bytes maxL ret ∈ ws := by rw [hw]; exact List.mem_cons_self
  have hK : Back l R p e below s args y 3 k (PreOf R mc ms Pc) (PostOf Qc mc ms free) := back_of (bytes := bytes) (maxL := maxL) (ret := ret) hM hp.1 hrc hrs hR.1 hR.2 (pay_in ht hG) hc (fun a' U hW9 => word_at hW9 (Or.inl (by first | rfl | simp [Cond.onTables, Cond.keeps, Cond.steady])) hini)
  have hlen : ∀ sig, parseMethodDescriptor y.desc = some sig → As.length = sig.parameters.length := fun sig h => by
    have h2 := hd.2.2
    rw [h] at h2
    rw [hn]
    exact (Option.some.inj h2).symm
  intro T hT X
  obtain ⟨v, vm₁, ⟨U', l2, c2, s2⟩, hW₁, X', ⟨g', mk, t, L, e1, e2, hq, h1, hL, h2, h3⟩, st⟩ := va_callSN X hx (bytes := bytes) (maxL := maxL) (ret := ret) ho (va_Nw.use rfl hl) hst hini (ht _ (hG _ hc).1) ⟨hd.1, hd.2.1⟩ hK hg (hsize.trans hml.symm) (argsL := As) (rest := rest) hlen hstack hW (by rw [hb]; exact hdg)
    (fun vm₁ hW₁ => ⟨hf.1, hf.2, hp.2 (T.setVm vm₁) hT hW₁⟩)
  dsimp only [Pt.U, Pt.locs, Pt.cells, Pt.slots] at X' e1 e2 h1 h2 h3 st
  subst h1; subst h2; subst h3
  exact ⟨v, (T.setVm vm₁).calling g' mk As.toArray, t, U', L, hT, X', hL, e1, hq, st⟩
theorem bw_roomk {pc k : Nat} {ls : Array Slot} {rest st : List Value} (h : (st.map fun v => v.category).sum ≤ k) : 2 * (F0 m pc ls rest).monitorRoom + (st.map fun v => v.category).sum ≤ k := by
  have h0 : (F0 m pc ls rest).monitorRoom = 0 := rfl
  omega
end BWK

/-- kept where the flag is 0, else renewed -/
def bw_q {α : Type} (f : Int32) (a b : α) : α := if f = 0 then a else b
theorem bw_q_t {α : Type} {f : Int32} {a b : α} (h : f = 0) : bw_q f a b = a := if_pos h
theorem bw_q_f {α : Type} {f : Int32} {a b : α} (h : ¬ f = 0) : bw_q f a b = b := if_neg h
def bw_nc (so : Nat → Int64) (T : Int64) : Int64 := bw_flood so (bw_b 0) T
def bw_ng (so : Nat → Int64) (T : Int64) (go : Nat → Int64) : Nat → Int64 := bw_up (bw_gt so (bw_b 0) (bw_nc so T)) go 40
def bw_nl (so sb : Nat → Int64) (T : Int64) (go bl : Nat → Int64) : Nat → Int64 := bw_up (bw_bl sb (bw_ng so T go) (bw_nc so T)) bl 40
def bw_ends (T : Int64) (tc : Nat → Int32) : Int64 := bw_F (fun b => bw_m T b && decide (tc b = 0)) bw_b 0 40
def bw_mc (sb : Nat → Int64) (T : Int64) (tc : Nat → Int32) : Int64 := bw_flood sb (bw_ends T tc) T
def bw_mg (sb : Nat → Int64) (T : Int64) (tc : Nat → Int32) (gb : Nat → Int64) : Nat → Int64 := bw_up (bw_gt sb (bw_ends T tc) (bw_mc sb T tc)) gb 40
theorem bw_endT {T : Int64} {tc : Nat → Int32} {i : Nat} (h1 : bw_m T i = true) (h2 : tc i = 0) : (bw_m T i && decide (tc i = 0)) = true := by rw [h1, decide_eq_true h2]; rfl
theorem bw_endF1 {T : Int64} {tc : Nat → Int32} {i : Nat} (h1 : bw_m T i = false) : (bw_m T i && decide (tc i = 0)) = false := by rw [h1]; rfl
theorem bw_endF2 {T : Int64} {tc : Nat → Int32} {i : Nat} (h2 : ¬ tc i = 0) : (bw_m T i && decide (tc i = 0)) = false := by rw [decide_eq_false h2, Bool.and_false]
theorem bw_sw_t {src : Nat → Int64} {left : Int64} {n : Nat} (h : (src n &&& bw_sw src left n) = 0) : bw_sw src left (n + 1) = bw_sw src left n &&& (bw_b n ^^^ (-1)) := if_pos h
theorem bw_sw_f {src : Nat → Int64} {left : Int64} {n : Nat} (h : ¬ (src n &&& bw_sw src left n) = 0) : bw_sw src left (n + 1) = bw_sw src left n := if_neg h
theorem bw_swk_s {src : Nat → Int64} {left : Int64} {k : Nat} (h : ¬ left = 0) : bw_swk src (k + 1) left = bw_swk src k (bw_sw src left 40) := if_neg h
theorem bw_swk_x {src : Nat → Int64} {left : Int64} {k : Nat} (h : left = 0) : bw_swk src k left = left := by
  cases k with
  | zero => rfl
  | succ k => exact if_pos h
theorem bw_jn_s {rim : Nat → Int64} {j f o : Int64} {n : Nat} (h : bw_lo o < 40) : bw_jn rim (n + 1) j f o = bw_jn rim n (j ||| rim (bw_lo o)) (f ||| rim (bw_lo o)) ((o &&& (bw_b (bw_lo o) ^^^ (-1))) ||| (rim (bw_lo o) &&& (f ^^^ (-1)))) := if_pos h
theorem bw_jn_x {rim : Nat → Int64} {j f o : Int64} {n : Nat} (h : ¬ bw_lo o < 40) : bw_jn rim n j f o = j := by
  cases n with
  | zero => rfl
  | succ n => exact if_neg h
theorem bw_pl1 {src : Nat → Int64} {lf R : Int64} {t : Nat} (hR : bw_swk src (40 - t) lf = R) (h : 40 ≤ t ∨ lf = 0) : lf = R := by
  rcases h with h | h
  · rw [← hR, show 40 - t = 0 by omega]; rfl
  · rw [← hR, bw_swk_x h]
theorem bw_plT {lf R : Int64} (e : lf = R) (h : lf = 0) : (1 : Int32) = bw_i (decide (R = 0)) := by
  rw [← e, decide_eq_true h]; rfl
theorem bw_plF {lf R : Int64} (e : lf = R) (h : ¬ lf = 0) : (0 : Int32) = bw_i (decide (R = 0)) := by
  rw [← e, decide_eq_false h]; rfl
