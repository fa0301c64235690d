theorem bw_flood_0 (st : Nat → Int64) (fi : Int64) : bw_flood st fi 0 = 0 := bw_z.mpr fun i => by
  cases hx : bw_m (bw_flood st fi 0) i with
  | false => rfl
  | true =>
    have h := (bw_cov (T := 0) (fun j hj => by rw [bw_0] at hj; cases hj) i).mp hx
    have := bw_G_T h
    rw [bw_0] at this; cases this
theorem bw_gt_0 (st : Nat → Int64) (fi : Int64) (d : Nat) : bw_gt st fi 0 d = 0 := if_neg (by rw [bw_0]; simp)
theorem bw_Inv_0 {mn tg : Nat → Int32} {ms : Nat → Int64} {re gd en : Int64} {ov be : Nat → Int64} {he : Int64} {rd ed : Nat → Int64} {pl : Int32} : bw_Inv 0 (fun _ => 0) (fun _ => 0) (fun _ => 0) 0 (fun _ => 0) (fun _ => 0) 0 (fun _ => 0) 0 0 mn tg 0 ms re gd en ov be he rd ed pl := by
  obtain ⟨n, t, h⟩ := bw_Rel_to9 (bw_Rel_0 (mn := mn) (tg := tg))
  have e1 : bw_nc (fun _ => 0) 0 = 0 := bw_flood_0 _ _
  have e2 : bw_mc (fun _ => 0) 0 (fun _ => 0) = 0 := bw_flood_0 _ _
  refine ⟨n, t, h, Or.inl rfl, fun _ => ⟨e1.symm, fun d _ => ?_, fun d _ => ?_⟩, fun _ => ⟨e2.symm, fun d _ => ?_⟩⟩
  · rw [e1, bw_gt_0]
  · unfold bw_bl
    exact (if_pos (show ((0 : Int64) &&& 0) = 0 by decide)).symm
  · rw [e2, bw_gt_0]
