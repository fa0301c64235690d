/-! PURE 7: the class's state and the reference's, side by side -/
def bw_Rel9 (T : Int64) (tc : Nat → Int32) (st sb : Nat → Int64) (mn tg : Nat → Int32) (n : Nat → Nat) (t : Nat → Nat → Nat) : Prop :=
  bw_40 T ∧ bw_sb st sb ∧ ∀ b, b < 40 → n b ≤ 4 ∧ tc b = nI (n b) ∧ (bw_m T b = true → mn b = nI (n b)) ∧ (bw_m T b = false → n b = 0) ∧ (∀ j, j < n b → tg (4 * b + j) = nI (t b j) ∧ t b j < 40) ∧ ∀ i, bw_m (st b) i = true ↔ ∃ j, j < n b ∧ t b j = i
theorem bw_Rel_of9 {T : Int64} {tc mn tg : Nat → Int32} {st sb : Nat → Int64} {n : Nat → Nat} {t : Nat → Nat → Nat} (h : bw_Rel9 T tc st sb mn tg n t) : bw_Rel T tc st sb mn tg := ⟨h.1, h.2.1, n, t, h.2.2⟩
theorem bw_Rel_to9 {T : Int64} {tc mn tg : Nat → Int32} {st sb : Nat → Int64} (h : bw_Rel T tc st sb mn tg) : ∃ n t, bw_Rel9 T tc st sb mn tg n t := by
  obtain ⟨h1, h2, n, t, h3⟩ := h
  exact ⟨n, t, h1, h2, h3⟩
theorem bw_nt_of9 {T : Int64} {tc mn tg : Nat → Int32} {st sb : Nat → Int64} {n : Nat → Nat} {t : Nat → Nat → Nat} (h : bw_Rel9 T tc st sb mn tg n t) : bw_nt9 T mn tg n t := fun b hb hT => ⟨(h.2.2 b hb).1, (h.2.2 b hb).2.2.1 hT, (h.2.2 b hb).2.2.2.2.1⟩
/-- what the class keeps is what it would find -/
def bw_VO (T : Int64) (so sb go : Nat → Int64) (co : Int64) (bl : Nat → Int64) : Prop := co = bw_nc so T ∧ (∀ d, d < 40 → go d = bw_gt so (bw_b 0) (bw_nc so T) d) ∧ ∀ h, h < 40 → bl h = bw_bl sb go co h
def bw_VB (T : Int64) (tc : Nat → Int32) (sb gb : Nat → Int64) (cb : Int64) : Prop := cb = bw_mc sb T tc ∧ ∀ d, d < 40 → gb d = bw_gt sb (bw_ends T tc) (bw_mc sb T tc) d
theorem bw_VO_q {T : Int64} {so sb go : Nat → Int64} {co : Int64} {bl : Nat → Int64} {f : Int32} (h : f = 0 → bw_VO T so sb go co bl) : bw_VO T so sb (bw_q f go (bw_ng so T go)) (bw_q f co (bw_nc so T)) (bw_q f bl (bw_nl so sb T go bl)) := by
  by_cases e : f = 0
  · rw [bw_q_t e, bw_q_t e, bw_q_t e]; exact h e
  · rw [bw_q_f e, bw_q_f e, bw_q_f e]
    exact ⟨rfl, fun d hd => bw_up_at hd, fun h hh => bw_up_at hh⟩
theorem bw_VB_q {T : Int64} {tc : Nat → Int32} {sb gb : Nat → Int64} {cb : Int64} {f : Int32} (h : f = 0 → bw_VB T tc sb gb cb) : bw_VB T tc sb (bw_q f gb (bw_mg sb T tc gb)) (bw_q f cb (bw_mc sb T tc)) := by
  by_cases e : f = 0
  · rw [bw_q_t e, bw_q_t e]; exact h e
  · rw [bw_q_f e, bw_q_f e]
    exact ⟨rfl, fun d hd => bw_up_at hd⟩
abbrev bw_D1 (T : Int64) (so : Nat → Int64) : Nat → Nat → Prop := bw_D (bw_IF T) (bw_E so T)
abbrev bw_D2 (T : Int64) (tc : Nat → Int32) (sb : Nat → Int64) : Nat → Nat → Prop := bw_D (bw_I (bw_ends T tc) T) (bw_E sb T)
section LINK
variable {T re gd en he co cb : Int64} {tc mn tg : Nat → Int32} {so sb go gb bl ms ov be rd ed : Nat → Int64} {n : Nat → Nat} {t : Nat → Nat → Nat} {pl : Int32} {k : Nat}
theorem bw_GE {I I' : Nat → Prop} {E E' : Nat → Nat → Prop} (hI : ∀ i, I i ↔ I' i) (h1 : ∀ w a b, bw_G I E w a → E a b → E' a b) (h2 : ∀ w a b, bw_G I' E' w a → E' a b → E a b) (w : Option Nat) (i : Nat) : bw_G I E w i ↔ bw_G I' E' w i :=
  ⟨bw_Lc (fun j hj => ⟨(hI j).mp hj.1, hj.2⟩) (fun a b ha he => ⟨h1 w a b ha he.1, he.2⟩), bw_Lc (fun j hj => ⟨(hI j).mpr hj.1, hj.2⟩) (fun a b ha he => ⟨h2 w a b ha he.1, he.2⟩)⟩
theorem bw_DE {I I' : Nat → Prop} {E E' : Nat → Nat → Prop} (h : ∀ w i, bw_G I E w i ↔ bw_G I' E' w i) (d x : Nat) : bw_D I E d x ↔ bw_D I' E' d x := by
  unfold bw_D; rw [h, h, h]
theorem bw_l_ms (hR : bw_Rel9 T tc so sb mn tg n t) (hM : bw_Mk T n t ms re gd en ov be he rd ed pl) : bw_ms T so ms := fun b hb i => by
  rw [hM.1 b hb i, (hR.2.2 b hb).2.2.2.2.2 i]
  unfold bw_S
  exact ⟨fun z => ⟨z.1, z.2.2, z.2.1⟩, fun z => ⟨z.1, z.2.2, z.2.1⟩⟩
theorem bw_l_GF (hR : bw_Rel9 T tc so sb mn tg n t) (hM : bw_Mk T n t ms re gd en ov be he rd ed pl) (w : Option Nat) (i : Nat) : bw_G (bw_IF T) (bw_EF T ms) w i ↔ bw_G (bw_IF T) (bw_E so T) w i := by
  have hm := bw_l_ms hR hM
  refine bw_GE (fun _ => Iff.rfl) (fun w a b ha he => ?_) (fun w a b ha he => ?_) w i
  · have ta := bw_G_T ha
    exact ⟨((hm a (hR.1 a ta) b).mp he.1).2.1, he.2⟩
  · have ta := bw_G_T ha
    exact ⟨(hm a (hR.1 a ta) b).mpr ⟨ta, he.1, he.2⟩, he.2⟩
theorem bw_l_en (hR : bw_Rel9 T tc so sb mn tg n t) (hM : bw_Mk T n t ms re gd en ov be he rd ed pl) : en = bw_ends T tc := bw_meq fun x => by
  rw [hM.2.1 x]
  unfold bw_ends
  rw [bw_F_m, bw_0]
  constructor
  · rintro ⟨h1, h2, h3⟩
    refine Or.inr ⟨x, h1, bw_endT h2 ?_, by rw [bw_bit (by omega)]; simp⟩
    rw [(hR.2.2 x h1).2.1, h3]; rfl
  · rintro (z | ⟨b, b1, b2, b3⟩)
    · cases z
    · rw [bw_bit (by omega), decide_eq_true_eq] at b3
      subst b3
      rw [Bool.and_eq_true, decide_eq_true_eq, (hR.2.2 b b1).2.1] at b2
      have := (hR.2.2 b b1).1
      exact ⟨b1, b2.1, bw_nI0 (by omega) b2.2⟩
theorem bw_l_GB (hR : bw_Rel9 T tc so sb mn tg n t) (hM : bw_Mk T n t ms re gd en ov be he rd ed pl) (w : Option Nat) (i : Nat) : bw_G (bw_I en T) (bw_EB T ms) w i ↔ bw_G (bw_I (bw_ends T tc) T) (bw_E sb T) w i := by
  have hm := bw_l_ms hR hM
  rw [bw_l_en hR hM]
  refine bw_GE (fun _ => Iff.rfl) (fun w a b ha he => ?_) (fun w a b ha he => ?_) w i
  · have ta := bw_G_T ha
    have hb := (bw_tr_m ms a b).mp he.1
    exact ⟨(hR.2.1.1 b a hb.1 (hR.1 a ta)).mpr ((hm b hb.1 a).mp hb.2).2.1, he.2⟩
  · have ta := bw_G_T ha
    have b40 := hR.1 b he.2
    exact ⟨(bw_tr_m ms a b).mpr ⟨b40, (hm b b40 a).mpr ⟨he.2, (hR.2.1.1 b a b40 (hR.1 a ta)).mp he.1, ta⟩⟩, he.2⟩
theorem bw_l_ov (hR : bw_Rel9 T tc so sb mn tg n t) (hM : bw_Mk T n t ms re gd en ov be he rd ed pl) : bw_ovS (bw_D1 T so) ov := fun b hb d => by
  rw [hM.2.2.2.2.1 b hb d, bw_DE (bw_l_GF hR hM)]
theorem bw_l_be (hR : bw_Rel9 T tc so sb mn tg n t) (hM : bw_Mk T n t ms re gd en ov be he rd ed pl) : bw_ovS (bw_D2 T tc sb) be := fun b hb d => by
  rw [hM.2.2.2.2.2.1 b hb d, bw_DE (bw_l_GB hR hM)]
theorem bw_l_co (hR : bw_Rel9 T tc so sb mn tg n t) (hV : bw_VO T so sb go co bl) (i : Nat) : bw_m co i = true ↔ bw_G (bw_IF T) (bw_E so T) none i := by
  rw [hV.1]; exact bw_cov hR.1 i
theorem bw_l_cb (hR : bw_Rel9 T tc so sb mn tg n t) (hV : bw_VB T tc sb gb cb) (i : Nat) : bw_m cb i = true ↔ bw_G (bw_I (bw_ends T tc) T) (bw_E sb T) none i := by
  rw [hV.1]; exact bw_cov hR.1 i
theorem bw_l_go (hR : bw_Rel9 T tc so sb mn tg n t) (hV : bw_VO T so sb go co bl) : ∀ d, d < 40 → ∀ i, bw_m (go d) i = true ↔ bw_D1 T so d i := fun d hd i => by
  rw [hV.2.1 d hd]; exact bw_gt_spec hR.1 hd i
theorem bw_l_gb (hR : bw_Rel9 T tc so sb mn tg n t) (hV : bw_VB T tc sb gb cb) : ∀ d, d < 40 → ∀ i, bw_m (gb d) i = true ↔ bw_D2 T tc sb d i := fun d hd i => by
  rw [hV.2 d hd]; exact bw_gt_spec hR.1 hd i
theorem bw_l_re (hR : bw_Rel9 T tc so sb mn tg n t) (hM : bw_Mk T n t ms re gd en ov be he rd ed pl) (hV : bw_VO T so sb go co bl) : co = re := bw_meq fun i => by
  rw [bw_l_co hR hV, hM.2.2.1 i, bw_l_GF hR hM]
theorem bw_l_gd (hR : bw_Rel9 T tc so sb mn tg n t) (hM : bw_Mk T n t ms re gd en ov be he rd ed pl) (hV : bw_VB T tc sb gb cb) : cb = gd := bw_meq fun i => by
  rw [bw_l_cb hR hV, hM.2.2.2.1 i, bw_l_GB hR hM]
theorem bw_co40 (hR : bw_Rel9 T tc so sb mn tg n t) (hV : bw_VO T so sb go co bl) : ∀ i, bw_m co i = true → i < 40 := fun i hi => hR.1 i (bw_G_T ((bw_l_co hR hV i).mp hi))
theorem bw_cb40 (hR : bw_Rel9 T tc so sb mn tg n t) (hV : bw_VB T tc sb gb cb) : ∀ i, bw_m cb i = true → i < 40 := fun i hi => hR.1 i (bw_G_T ((bw_l_cb hR hV i).mp hi))
theorem bw_l_bk (hR : bw_Rel9 T tc so sb mn tg n t) (hM : bw_Mk T n t ms re gd en ov be he rd ed pl) (hV : bw_VO T so sb go co bl) {h : Nat} (hh : h < 40) : bw_bk re ms ov h = (sb h &&& go h) := by
  rw [← bw_l_re hR hM hV]
  exact bw_back_eq hR.1 (bw_l_ms hR hM) hR.2.1 (bw_l_co hR hV) (bw_l_go hR hV) (bw_l_ov hR hM) hh
theorem bw_l_rd (hR : bw_Rel9 T tc so sb mn tg n t) (hM : bw_Mk T n t ms re gd en ov be he rd ed pl) (hV : bw_VO T so sb go co bl) {h : Nat} (hh : h < 40) : bl h = rd h := by
  rw [hV.2.2 h hh]
  have e := bw_l_bk hR hM hV hh
  rcases hM.2.2.2.2.2.2.1.2.1 h hh with ⟨z1, z2⟩ | ⟨z1, r, z2, z3⟩
  · rw [z2]
    unfold bw_bl
    rw [if_pos (by rw [← e]; exact z1)]
  · have ec := bw_l_re hR hM hV
    rw [← ec] at z1 z2 z3
    rw [bw_round_eq hR.1 (bw_l_ms hR hM) hR.2.1 (bw_l_co hR hV) (bw_l_go hR hV) (bw_l_ov hR hM) hh z2, if_neg z1, z3]
/-! the answers -/
theorem bw_a_c0 (hR : bw_Rel9 T tc so sb mn tg n t) : nI (bw_c T 64) = nI (bw_N (bw_m T) 40) := by rw [bw_c40 hR.1, bw_N_c]
theorem bw_a_c1 (hR : bw_Rel9 T tc so sb mn tg n t) (hM : bw_Mk T n t ms re gd en ov be he rd ed pl) (hV : bw_VO T so sb go co bl) : nI (bw_c co 64) = nI (bw_N (bw_m re) 40) := by rw [bw_c40 (bw_co40 hR hV), bw_N_c, bw_l_re hR hM hV]
theorem bw_a_c2 (hR : bw_Rel9 T tc so sb mn tg n t) (hM : bw_Mk T n t ms re gd en ov be he rd ed pl) (hV : bw_VB T tc sb gb cb) : nI (bw_c cb 64) = nI (bw_N (bw_m gd) 40) := by rw [bw_c40 (bw_cb40 hR hV), bw_N_c, bw_l_gd hR hM hV]
theorem bw_a_c3 (hR : bw_Rel9 T tc so sb mn tg n t) (hM : bw_Mk T n t ms re gd en ov be he rd ed pl) (hV : bw_VO T so sb go co bl) : nI (bw_N (fun h => !decide (bl h = 0)) 40) = nI (bw_N (bw_m he) 40) := by
  congr 1
  refine bw_N_ext fun h hh => ?_
  have e := bw_l_bk hR hM hV hh
  have hq := hM.2.2.2.2.2.2.1.1 h
  rw [hV.2.2 h hh]
  unfold bw_bl
  by_cases z : (sb h &&& go h) = 0
  · rw [if_pos z, bw_nzF rfl]
    cases hx : bw_m he h with
    | false => rfl
    | true => exact absurd (by rw [e]; exact z) (hq.mp hx).2
  · rw [if_neg z, hq.mpr ⟨hh, by rw [e]; exact z⟩]
    refine bw_nzT fun y => ?_
    have : bw_m (bw_flood sb (sb h &&& go h) (co &&& (bw_b h ^^^ (-1))) ||| bw_b h) h = true := by rw [bw_or, bw_bit (by omega)]; simp
    rw [y, bw_0] at this; cases this
theorem bw_a_ar (hR : bw_Rel9 T tc so sb mn tg n t) (hM : bw_Mk T n t ms re gd en ov be he rd ed pl) (hV : bw_VO T so sb go co bl) (b : Nat) : bw_N (fun h => bw_m (bl h) b) 40 = bw_N (fun h => bw_m (rd h) b) 40 := bw_N_ext fun h hh => by rw [bw_l_rd hR hM hV hh]
theorem bw_a_c4 (hR : bw_Rel9 T tc so sb mn tg n t) (hM : bw_Mk T n t ms re gd en ov be he rd ed pl) (hV : bw_VO T so sb go co bl) : nI (bw_X (fun b => bw_N (fun h => bw_m (bl h) b) 40) 40) = nI (bw_X (fun b => bw_N (fun h => bw_m (rd h) b) 40) 40) := by
  congr 1
  exact bw_X_ext fun b _ => bw_a_ar hR hM hV b
theorem bw_a_c5 (hR : bw_Rel9 T tc so sb mn tg n t) (hM : bw_Mk T n t ms re gd en ov be he rd ed pl) (hV : bw_VO T so sb go co bl) : bw_i (decide (bw_swk (fun b => sb b &&& (go b ^^^ (-1))) 40 co = 0)) = (if pl = 0 then 0 else 1) := by
  obtain ⟨lf, h1, h2, h3⟩ := hM.2.2.2.2.2.2.2.2
  have ec := bw_l_re hR hM hV
  rw [← ec] at h2
  have key := bw_plain_eq (src := fun b => sb b &&& (go b ^^^ (-1))) (dst := bw_dst ms ov) (cv := co) (r := lf) (bw_co40 hR hV) (fun a b ha hb => by
    have ta := bw_G_T ((bw_l_co hR hV a).mp ha)
    have tb := bw_G_T ((bw_l_co hR hV b).mp hb)
    have a40 := hR.1 a ta
    have b40 := hR.1 b tb
    unfold bw_dst
    rw [bw_dif, bw_dif, Bool.and_eq_true, Bool.and_eq_true]
    have e1 : bw_m (sb b) a = true ↔ bw_m (ms a) b = true := by
      rw [hR.2.1.1 a b a40 b40, bw_l_ms hR hM a a40 b]
      exact ⟨fun z => ⟨ta, z, tb⟩, fun z => z.2.1⟩
    have e2 : bw_m (go b) a = bw_m (ov a) b := by
      have := bw_l_go hR hV b b40 a
      have h9 := bw_l_ov hR hM a a40 b
      cases hx : bw_m (go b) a <;> cases hy : bw_m (ov a) b <;> simp_all
    rw [e1, e2]) h2.1 h3 h2.2
  rw [h1]
  by_cases z : lf = 0
  · rw [decide_eq_true z, decide_eq_true (key.mpr z)]; rfl
  · rw [decide_eq_false z, decide_eq_false (fun y => z (key.mp y))]; rfl
theorem bw_a_lid (hR : bw_Rel9 T tc so sb mn tg n t) (hM : bw_Mk T n t ms re gd en ov be he rd ed pl) (hV : bw_VO T so sb go co bl) (hk : k < 40) {r : Int32} (h : bw_first (bw_nP ov k) r) : bw_nearA go k = r := bw_near_eq (bw_l_go hR hV) (bw_l_ov hR hM) hk h
theorem bw_a_meet (hR : bw_Rel9 T tc so sb mn tg n t) (hM : bw_Mk T n t ms re gd en ov be he rd ed pl) (hV : bw_VB T tc sb gb cb) (hk : k < 40) {r : Int32} (h : bw_first (bw_nP be k) r) : bw_nearA gb k = r := bw_near_eq (bw_l_gb hR hV) (bw_l_be hR hM) hk h
theorem bw_a_s0 (hR : bw_Rel9 T tc so sb mn tg n t) (hM : bw_Mk T n t ms re gd en ov be he rd ed pl) (hV : bw_VO T so sb go co bl) (hk : k < 40) : bw_gates go k = ov k := bw_over_eq (bw_l_go hR hV) (bw_l_ov hR hM) hk
theorem bw_a_s1 (hR : bw_Rel9 T tc so sb mn tg n t) (hM : bw_Mk T n t ms re gd en ov be he rd ed pl) (hV : bw_VB T tc sb gb cb) (hk : k < 40) : bw_gates gb k = be k := bw_over_eq (bw_l_gb hR hV) (bw_l_be hR hM) hk
theorem bw_a_s3 (hR : bw_Rel9 T tc so sb mn tg n t) (hM : bw_Mk T n t ms re gd en ov be he rd ed pl) (hV : bw_VO T so sb go co bl) (hk : k < 40) : bw_rim so go co k = ed k := bw_edge_eq hR.1 (bw_l_ms hR hM) (bw_l_co hR hV) (bw_l_go hR hV) (bw_l_ov hR hM) hM.2.2.2.2.2.2.2.1 hk
theorem bw_a_s4 (hR : bw_Rel9 T tc so sb mn tg n t) (hM : bw_Mk T n t ms re gd en ov be he rd ed pl) (hV : bw_VB T tc sb gb cb) (hk : k < 40) {r : Int64} (h : bw_haS ms be gd k r) : bw_rim sb gb cb k = r := by
  rw [← bw_l_gd hR hM hV] at h
  exact bw_hang_eq hR.1 (bw_l_ms hR hM) hR.2.1 (bw_l_cb hR hV) (bw_l_gb hR hV) (bw_l_be hR hM) hk h
theorem bw_a_s5 (hR : bw_Rel9 T tc so sb mn tg n t) (hM : bw_Mk T n t ms re gd en ov be he rd ed pl) (hV : bw_VO T so sb go co bl) (hk : k < 40) : go k = bw_F (fun x => bw_m (ov x) k) bw_b 0 40 := bw_meq fun x => by
  rw [bw_l_go hR hV k hk x, bw_F_m, bw_0]
  constructor
  · intro z
    have x40 := hR.1 x (bw_G_T z.2.1)
    exact Or.inr ⟨x, x40, (bw_l_ov hR hM x x40 k).mpr ⟨hk, z⟩, by rw [bw_bit (by omega)]; simp⟩
  · rintro (z | ⟨b, b1, b2, b3⟩)
    · cases z
    · rw [bw_bit (by omega), decide_eq_true_eq] at b3
      subst b3
      exact ((bw_l_ov hR hM b b1 k).mp b2).2
theorem bw_a_dep (hR : bw_Rel9 T tc so sb mn tg n t) (hM : bw_Mk T n t ms re gd en ov be he rd ed pl) (hV : bw_VO T so sb go co bl) : (if bw_m co k = true then nI (bw_N (fun h => bw_m (bl h) k) 40) else -1) = (if bw_m re k = true then nI (bw_N (fun h => bw_m (rd h) k) 40) else (-1 : Int32)) := by
  rw [bw_a_ar hR hM hV k, bw_l_re hR hM hV]
theorem bw_a_jn (hR : bw_Rel9 T tc so sb mn tg n t) (hM : bw_Mk T n t ms re gd en ov be he rd ed pl) (hV : bw_VO T so sb go co bl) {bs r : Int64} (h : bw_Lp (bw_jx ed re bs) 0 r) : bw_joins (bw_rim so go co) co bs = r := by
  rw [← bw_l_re hR hM hV] at h
  exact bw_joins_eq (fun b hb => bw_a_s3 hR hM hV hb) (fun a ha i hi => ((bw_rim_m ha i).mp hi).1.2) (bw_co40 hR hV) h
theorem bw_a_in (hR : bw_Rel9 T tc so sb mn tg n t) (hM : bw_Mk T n t ms re gd en ov be he rd ed pl) (hV : bw_VO T so sb go co bl) : bw_sm bl k 40 = bw_sm rd k 40 := bw_sm_ext fun h hh => bw_l_rd hR hM hV hh
theorem bw_a_bl (hR : bw_Rel9 T tc so sb mn tg n t) (hV : bw_VO T so sb go co bl) : ∀ h, h < 40 → ∀ i, bw_m (bl h) i = true → i < 40 := fun h hh i hi => by
  rw [hV.2.2 h hh] at hi
  unfold bw_bl at hi
  split at hi
  · rw [bw_0] at hi; cases hi
  · rw [bw_or, Bool.or_eq_true, bw_bit (by omega), decide_eq_true_eq] at hi
    rcases hi with hi | hi
    · have hal : ∀ j, bw_m (co &&& (bw_b h ^^^ (-1))) j = true → j < 40 := fun j hj => by
        rw [bw_dif, Bool.and_eq_true] at hj
        exact bw_co40 hR hV j hj.1
      have := (bw_flood_spec hal i).mp hi
      exact bw_Li (fun z => z < 40) (fun j hj => hal j hj.2) (fun _ b _ _ he => hal b he.2) this
    · omega
end LINK
