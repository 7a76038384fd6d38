theorem d_Lg_cellOf_0 : decode b_Lg_cellOf 0 = .ok (.iload_n 0, 1) := by decide +kernel
theorem d_Lg_cellOf_1 : decode b_Lg_cellOf 1 = .ok (.bipush 8, 2) := by decide +kernel
theorem d_Lg_cellOf_3 : decode b_Lg_cellOf 3 = .ok (.imul, 1) := by decide +kernel
theorem d_Lg_cellOf_4 : decode b_Lg_cellOf 4 = .ok (.iload_n 1, 1) := by decide +kernel
theorem d_Lg_cellOf_5 : decode b_Lg_cellOf 5 = .ok (.iadd, 1) := by decide +kernel
theorem d_Lg_cellOf_6 : decode b_Lg_cellOf 6 = .ok (.iconst 1, 1) := by decide +kernel
theorem d_Lg_cellOf_7 : decode b_Lg_cellOf 7 = .ok (.isub, 1) := by decide +kernel
theorem d_Lg_cellOf_8 : decode b_Lg_cellOf 8 = .ok (.ireturn, 1) := by decide +kernel
theorem d_Lg_castVote_0 : decode b_Lg_castVote 0 = .ok (.aload_n 0, 1) := by decide +kernel
theorem d_Lg_castVote_1 : decode b_Lg_castVote 1 = .ok (.getfield 9, 3) := by decide +kernel
theorem d_Lg_castVote_4 : decode b_Lg_castVote 4 = .ok (.iload_n 1, 1) := by decide +kernel
theorem d_Lg_castVote_5 : decode b_Lg_castVote 5 = .ok (.iload_n 2, 1) := by decide +kernel
theorem d_Lg_castVote_6 : decode b_Lg_castVote 6 = .ok (.iastore, 1) := by decide +kernel
theorem d_Lg_castVote_7 : decode b_Lg_castVote 7 = .ok (.aload_n 0, 1) := by decide +kernel
theorem d_Lg_castVote_8 : decode b_Lg_castVote 8 = .ok (.getfield 15, 3) := by decide +kernel
theorem d_Lg_castVote_11 : decode b_Lg_castVote 11 = .ok (.iload_n 1, 1) := by decide +kernel
theorem d_Lg_castVote_12 : decode b_Lg_castVote 12 = .ok (.iload_n 2, 1) := by decide +kernel
theorem d_Lg_castVote_13 : decode b_Lg_castVote 13 = .ok (.iastore, 1) := by decide +kernel
theorem d_Lg_castVote_14 : decode b_Lg_castVote 14 = .ok (.aload_n 0, 1) := by decide +kernel
theorem d_Lg_castVote_15 : decode b_Lg_castVote 15 = .ok (.getfield 18, 3) := by decide +kernel
theorem d_Lg_castVote_18 : decode b_Lg_castVote 18 = .ok (.iload_n 1, 1) := by decide +kernel
theorem d_Lg_castVote_19 : decode b_Lg_castVote 19 = .ok (.iload_n 3, 1) := by decide +kernel
theorem d_Lg_castVote_20 : decode b_Lg_castVote 20 = .ok (.iastore, 1) := by decide +kernel
theorem d_Lg_castVote_21 : decode b_Lg_castVote 21 = .ok (.return_, 1) := by decide +kernel
theorem d_Lg_forgetBelow_0 : decode b_Lg_forgetBelow 0 = .ok (.iconst 0, 1) := by decide +kernel
theorem d_Lg_forgetBelow_1 : decode b_Lg_forgetBelow 1 = .ok (.istore_n 2, 1) := by decide +kernel
theorem d_Lg_forgetBelow_2 : decode b_Lg_forgetBelow 2 = .ok (.iconst 0, 1) := by decide +kernel
theorem d_Lg_forgetBelow_3 : decode b_Lg_forgetBelow 3 = .ok (.istore_n 3, 1) := by decide +kernel
theorem d_Lg_forgetBelow_4 : decode b_Lg_forgetBelow 4 = .ok (.iload_n 3, 1) := by decide +kernel
theorem d_Lg_forgetBelow_5 : decode b_Lg_forgetBelow 5 = .ok (.iload_n 1, 1) := by decide +kernel
theorem d_Lg_forgetBelow_6 : decode b_Lg_forgetBelow 6 = .ok (.bipush 8, 2) := by decide +kernel
theorem d_Lg_forgetBelow_8 : decode b_Lg_forgetBelow 8 = .ok (.imul, 1) := by decide +kernel
theorem d_Lg_forgetBelow_9 : decode b_Lg_forgetBelow 9 = .ok (.if_icmp .ge 42, 3) := by decide +kernel
theorem d_Lg_forgetBelow_12 : decode b_Lg_forgetBelow 12 = .ok (.aload_n 0, 1) := by decide +kernel
theorem d_Lg_forgetBelow_13 : decode b_Lg_forgetBelow 13 = .ok (.getfield 15, 3) := by decide +kernel
theorem d_Lg_forgetBelow_16 : decode b_Lg_forgetBelow 16 = .ok (.iload_n 3, 1) := by decide +kernel
theorem d_Lg_forgetBelow_17 : decode b_Lg_forgetBelow 17 = .ok (.iaload, 1) := by decide +kernel
theorem d_Lg_forgetBelow_18 : decode b_Lg_forgetBelow 18 = .ok (.ifCond .eq 6, 3) := by decide +kernel
theorem d_Lg_forgetBelow_21 : decode b_Lg_forgetBelow 21 = .ok (.iinc 2 1, 3) := by decide +kernel
theorem d_Lg_forgetBelow_24 : decode b_Lg_forgetBelow 24 = .ok (.aload_n 0, 1) := by decide +kernel
theorem d_Lg_forgetBelow_25 : decode b_Lg_forgetBelow 25 = .ok (.getfield 9, 3) := by decide +kernel
theorem d_Lg_forgetBelow_28 : decode b_Lg_forgetBelow 28 = .ok (.iload_n 3, 1) := by decide +kernel
theorem d_Lg_forgetBelow_29 : decode b_Lg_forgetBelow 29 = .ok (.iconst 0, 1) := by decide +kernel
theorem d_Lg_forgetBelow_30 : decode b_Lg_forgetBelow 30 = .ok (.iastore, 1) := by decide +kernel
theorem d_Lg_forgetBelow_31 : decode b_Lg_forgetBelow 31 = .ok (.aload_n 0, 1) := by decide +kernel
theorem d_Lg_forgetBelow_32 : decode b_Lg_forgetBelow 32 = .ok (.getfield 15, 3) := by decide +kernel
theorem d_Lg_forgetBelow_35 : decode b_Lg_forgetBelow 35 = .ok (.iload_n 3, 1) := by decide +kernel
theorem d_Lg_forgetBelow_36 : decode b_Lg_forgetBelow 36 = .ok (.iconst 0, 1) := by decide +kernel
theorem d_Lg_forgetBelow_37 : decode b_Lg_forgetBelow 37 = .ok (.iastore, 1) := by decide +kernel
theorem d_Lg_forgetBelow_38 : decode b_Lg_forgetBelow 38 = .ok (.aload_n 0, 1) := by decide +kernel
theorem d_Lg_forgetBelow_39 : decode b_Lg_forgetBelow 39 = .ok (.getfield 18, 3) := by decide +kernel
theorem d_Lg_forgetBelow_42 : decode b_Lg_forgetBelow 42 = .ok (.iload_n 3, 1) := by decide +kernel
theorem d_Lg_forgetBelow_43 : decode b_Lg_forgetBelow 43 = .ok (.iconst 0, 1) := by decide +kernel
theorem d_Lg_forgetBelow_44 : decode b_Lg_forgetBelow 44 = .ok (.iastore, 1) := by decide +kernel
theorem d_Lg_forgetBelow_45 : decode b_Lg_forgetBelow 45 = .ok (.iinc 3 1, 3) := by decide +kernel
theorem d_Lg_forgetBelow_48 : decode b_Lg_forgetBelow 48 = .ok (.goto (-44), 3) := by decide +kernel
theorem d_Lg_forgetBelow_51 : decode b_Lg_forgetBelow 51 = .ok (.iload_n 2, 1) := by decide +kernel
theorem d_Lg_forgetBelow_52 : decode b_Lg_forgetBelow 52 = .ok (.ireturn, 1) := by decide +kernel
def wp_Lg_cellOf (x1 : Int32) (x2 : Int32) (post : Int32 → Prop) : Prop := (post (((x1 * (8 : Int32)) + x2) - (1 : Int32)))
abbrev rm_Lg_cellOf : Room := { frames := 0, cells := 0, slots := 0, locals := 0 }
def wp_Lg_castVote (z1 : MlgT) (x1 : Int32) (x2 : Int32) (x3 : Int32) (post : MlgT → Prop) : Prop := (vp_in x1 40 ∧ (vp_in x1 40 ∧ (vp_in x1 40 ∧ (post (mlg_s_voteCommands (mlg_s_voteBallots (mlg_s_promisedBallots z1 (upd (mlg_promisedBallots z1) (x1).toNatClampNeg x2)) (upd (mlg_voteBallots z1) (x1).toNatClampNeg x2)) (upd (mlg_voteCommands z1) (x1).toNatClampNeg x3))))))
abbrev rm_Lg_castVote : Room := { frames := 0, cells := 0, slots := 0, locals := 0 }
def wp_Lg_forgetBelow_L4 (K4 : Int32 → Int32 → Int32 → MlgT → Prop) : Nat → Int32 → Int32 → Int32 → MlgT → Prop
  | 0, _, _, _, _ => False
  | n4 + 1, y1, y2, y3, z1 => (((y1 * (8 : Int32)) ≤ y3 → K4 y1 y2 y3 z1) ∧ (¬ (y1 * (8 : Int32)) ≤ y3 → (vp_in y3 40 ∧ ((((mlg_voteBallots z1) (y3).toNatClampNeg) = (0 : Int32) → (vp_in y3 40 ∧ (vp_in y3 40 ∧ (vp_in y3 40 ∧ (∀ v3 : Int32, v3 = (y3 + (1 : Int32)) → wp_Lg_forgetBelow_L4 K4 n4 y1 y2 v3 (mlg_s_voteCommands (mlg_s_voteBallots (mlg_s_promisedBallots z1 (upd (mlg_promisedBallots z1) (y3).toNatClampNeg (0 : Int32))) (upd (mlg_voteBallots z1) (y3).toNatClampNeg (0 : Int32))) (upd (mlg_voteCommands z1) (y3).toNatClampNeg (0 : Int32)))))))) ∧ (¬ ((mlg_voteBallots z1) (y3).toNatClampNeg) = (0 : Int32) → (∀ v4 : Int32, v4 = (y2 + (1 : Int32)) → (vp_in y3 40 ∧ (vp_in y3 40 ∧ (vp_in y3 40 ∧ (∀ v5 : Int32, v5 = (y3 + (1 : Int32)) → wp_Lg_forgetBelow_L4 K4 n4 y1 v4 v5 (mlg_s_voteCommands (mlg_s_voteBallots (mlg_s_promisedBallots z1 (upd (mlg_promisedBallots z1) (y3).toNatClampNeg (0 : Int32))) (upd (mlg_voteBallots z1) (y3).toNatClampNeg (0 : Int32))) (upd (mlg_voteCommands z1) (y3).toNatClampNeg (0 : Int32)))))))))))))
def wp_Lg_forgetBelow (z1 : MlgT) (x1 : Int32) (post : Int32 → MlgT → Prop) : Prop := (∃ n4 : Nat, wp_Lg_forgetBelow_L4 (fun (y1 : Int32) (y2 : Int32) (y3 : Int32) (z1 : MlgT) => (post y2 z1)) n4 x1 (0 : Int32) (0 : Int32) z1)
abbrev rm_Lg_forgetBelow : Room := { frames := 0, cells := 0, slots := 0, locals := 0 }
set_option maxHeartbeats 4000000 in
set_option maxRecDepth 100000 in
theorem c_Lg_cellOf (l : Launch) (D : va_G) (cI cN cZ : ClassId) (x1 : Int32) (x2 : Int32) (post : Int32 → Prop) (hw : wp_Lg_cellOf x1 x2 post) : km_I l y_Lg_cellOf (.code y_Lg_cellOf b_Lg_cellOf 2 (some .int) :: kmW) rm_Lg_cellOf D kmC (kmT cI cN cZ) kmF kmM [.int x1, .int x2] ([] : va_W) (fun (r : Int32) (u : Unit) => post r) (fun (u : Unit) => ([] : va_W)) 0 0 := by
  refine km_startI (cc := b_Lg_cellOf) (maxL := 2) (ret := (some .int)) (by decide) rfl (Nat.le_of_ble_eq_true rfl) ?_
  intro p e s m below meth c A ls hE hA hK hP hD hS hl
  obtain ⟨hx, hb, hr, hml, hown, hts0, hlk, hnm⟩ := id hE
  have hts : ∀ w ∈ kmW, w.before ([.int x1, .int x2] : List Value).toArray s = true := fun w h => hts0 w (List.mem_cons_of_mem _ h)
  have hP : va_P D kmC ([] : va_W) s.heap := hP
  have hl : lv_has ls 2 [(0, .int x1), (1, .int x2)] := hl
  unfold wp_Lg_cellOf at hw
  refine lv_iload_n hx hb d_Lg_cellOf_0 rfl (lv_at hl 0 rfl) ?_
  refine lv_bipush (v := (8 : Int32)) hx hb d_Lg_cellOf_1 (by decide) ?_
  refine lv_imul hx hb d_Lg_cellOf_3 ?_
  refine lv_iload_n hx hb d_Lg_cellOf_4 rfl (lv_at hl 1 rfl) ?_
  refine lv_iadd hx hb d_Lg_cellOf_5 ?_
  refine lv_iconst (v := (1 : Int32)) hx hb d_Lg_cellOf_6 (by decide) ?_
  refine lv_isub hx hb d_Lg_cellOf_7 ?_
  exact W.iret (v := (((x1 * (8 : Int32)) + x2) - (1 : Int32))) hx hb hr (fun t ht hW => ⟨⟨(((x1 * (8 : Int32)) + x2) - (1 : Int32)), (), rfl, hw, by rw [ht]; exact hP, hD⟩, hS.F ht⟩) hS.2.2 d_Lg_cellOf_8
set_option maxHeartbeats 4000000 in
set_option maxRecDepth 100000 in
theorem c_Lg_castVote (l : Launch) (D : va_G) (cI cN cZ : ClassId) (a1 : Nat → Nat) (z1 : MlgT) (x1 : Int32) (x2 : Int32) (x3 : Int32) (post : MlgT → Prop) (hw : wp_Lg_castVote z1 x1 x2 x3 post) : km_V l y_Lg_castVote (.code y_Lg_castVote b_Lg_castVote 4 none :: kmW) rm_Lg_castVote D kmC (kmT cI cN cZ) kmF kmM [.ref (a1 0), .int x1, .int x2, .int x3] (mlgW cI cN cZ a1 z1) (fun (u : MlgT) => post u) (fun (u : MlgT) => (mlgW cI cN cZ a1 u)) 0 0 := by
  refine km_startV (cc := b_Lg_castVote) (maxL := 4) (ret := none) (by decide) rfl (Nat.le_of_ble_eq_true rfl) ?_
  intro p e s m below meth c A ls hE hA hK hP hD hS hl
  obtain ⟨hx, hb, hr, hml, hown, hts0, hlk, hnm⟩ := id hE
  have hts : ∀ w ∈ kmW, w.before ([.ref (a1 0), .int x1, .int x2, .int x3] : List Value).toArray s = true := fun w h => hts0 w (List.mem_cons_of_mem _ h)
  have hP : va_P D kmC (mlgW cI cN cZ a1 z1) s.heap := hP
  have hl : lv_has ls 4 [(0, .ref (a1 0)), (1, .int x1), (2, .int x2), (3, .int x3)] := hl
  unfold wp_Lg_castVote at hw
  refine lv_aload_n hx hb d_Lg_castVote_0 rfl (lv_at hl 0 rfl) ?_
  refine va_get (D := D) (ci := 1) (v := .ref (a1 1)) (C := R_Lg) (T := F_Lg) (N := 3) hx hb hts iw_Lg hown hK.1 hP 0 rfl rfl 0 (by decide) (hts _ mw_66) (fun _ h => h) rfl d_Lg_castVote_1 ?_
  refine lv_iload_n hx hb d_Lg_castVote_4 rfl (lv_at hl 1 rfl) ?_
  refine lv_iload_n hx hb d_Lg_castVote_5 rfl (lv_at hl 2 rfl) ?_
  obtain ⟨hin, hw⟩ := hw
  refine va_iast (f := (mlg_promisedBallots z1)) hx hb hK.1 hP hD hS 1 0 rfl rfl hin d_Lg_castVote_6 (fun H locs hP hD hS => ?_)
  have hP : va_P D kmC (mlgW cI cN cZ a1 (mlg_s_promisedBallots z1 (upd (mlg_promisedBallots z1) (x1).toNatClampNeg x2))) H := hP
  have hD : va_D A (mlgW cI cN cZ a1 (mlg_s_promisedBallots z1 (upd (mlg_promisedBallots z1) (x1).toNatClampNeg x2))) := hD
  refine lv_aload_n hx hb d_Lg_castVote_7 rfl (lv_at hl 0 rfl) ?_
  refine va_get (D := D) (ci := 1) (v := .ref (a1 2)) (C := R_Lg) (T := F_Lg) (N := 3) hx hb hts iw_Lg hown hK.1 hP 0 rfl rfl 1 (by decide) (hts _ mw_68) (fun _ h => h) rfl d_Lg_castVote_8 ?_
  refine lv_iload_n hx hb d_Lg_castVote_11 rfl (lv_at hl 1 rfl) ?_
  refine lv_iload_n hx hb d_Lg_castVote_12 rfl (lv_at hl 2 rfl) ?_
  obtain ⟨hin, hw⟩ := hw
  refine va_iast (f := (mlg_voteBallots z1)) hx hb hK.1 hP hD hS 2 0 rfl rfl hin d_Lg_castVote_13 (fun H locs hP hD hS => ?_)
  have hP : va_P D kmC (mlgW cI cN cZ a1 (mlg_s_voteBallots (mlg_s_promisedBallots z1 (upd (mlg_promisedBallots z1) (x1).toNatClampNeg x2)) (upd (mlg_voteBallots z1) (x1).toNatClampNeg x2))) H := hP
  have hD : va_D A (mlgW cI cN cZ a1 (mlg_s_voteBallots (mlg_s_promisedBallots z1 (upd (mlg_promisedBallots z1) (x1).toNatClampNeg x2)) (upd (mlg_voteBallots z1) (x1).toNatClampNeg x2))) := hD
  refine lv_aload_n hx hb d_Lg_castVote_14 rfl (lv_at hl 0 rfl) ?_
  refine va_get (D := D) (ci := 1) (v := .ref (a1 3)) (C := R_Lg) (T := F_Lg) (N := 3) hx hb hts iw_Lg hown hK.1 hP 0 rfl rfl 2 (by decide) (hts _ mw_70) (fun _ h => h) rfl d_Lg_castVote_15 ?_
  refine lv_iload_n hx hb d_Lg_castVote_18 rfl (lv_at hl 1 rfl) ?_
  refine lv_iload_n hx hb d_Lg_castVote_19 rfl (lv_at hl 3 rfl) ?_
  obtain ⟨hin, hw⟩ := hw
  refine va_iast (f := (mlg_voteCommands z1)) hx hb hK.1 hP hD hS 3 0 rfl rfl hin d_Lg_castVote_20 (fun H locs hP hD hS => ?_)
  have hP : va_P D kmC (mlgW cI cN cZ a1 (mlg_s_voteCommands (mlg_s_voteBallots (mlg_s_promisedBallots z1 (upd (mlg_promisedBallots z1) (x1).toNatClampNeg x2)) (upd (mlg_voteBallots z1) (x1).toNatClampNeg x2)) (upd (mlg_voteCommands z1) (x1).toNatClampNeg x3))) H := hP
  have hD : va_D A (mlgW cI cN cZ a1 (mlg_s_voteCommands (mlg_s_voteBallots (mlg_s_promisedBallots z1 (upd (mlg_promisedBallots z1) (x1).toNatClampNeg x2)) (upd (mlg_voteBallots z1) (x1).toNatClampNeg x2)) (upd (mlg_voteCommands z1) (x1).toNatClampNeg x3))) := hD
  exact W.vret hx hb hr (fun t ht hW => ⟨⟨(mlg_s_voteCommands (mlg_s_voteBallots (mlg_s_promisedBallots z1 (upd (mlg_promisedBallots z1) (x1).toNatClampNeg x2)) (upd (mlg_voteBallots z1) (x1).toNatClampNeg x2)) (upd (mlg_voteCommands z1) (x1).toNatClampNeg x3)), rfl, hw, by rw [ht]; exact hP, hD⟩, hS.F ht⟩) hS.2.2 d_Lg_castVote_21
set_option maxHeartbeats 4000000 in
set_option maxRecDepth 100000 in
theorem c_Lg_forgetBelow (l : Launch) (D : va_G) (cI cN cZ : ClassId) (a1 : Nat → Nat) (z1 : MlgT) (x1 : Int32) (post : Int32 → MlgT → Prop) (hw : wp_Lg_forgetBelow z1 x1 post) : km_I l y_Lg_forgetBelow (.code y_Lg_forgetBelow b_Lg_forgetBelow 4 (some .int) :: kmW) rm_Lg_forgetBelow D kmC (kmT cI cN cZ) kmF kmM [.ref (a1 0), .int x1] (mlgW cI cN cZ a1 z1) (fun (r : Int32) (u : MlgT) => post r u) (fun (u : MlgT) => (mlgW cI cN cZ a1 u)) 0 0 := by
  refine km_startI (cc := b_Lg_forgetBelow) (maxL := 4) (ret := (some .int)) (by decide) rfl (Nat.le_of_ble_eq_true rfl) ?_
  intro p e s m below meth c A ls hE hA hK hP hD hS hl
  obtain ⟨hx, hb, hr, hml, hown, hts0, hlk, hnm⟩ := id hE
  have hts : ∀ w ∈ kmW, w.before ([.ref (a1 0), .int x1] : List Value).toArray s = true := fun w h => hts0 w (List.mem_cons_of_mem _ h)
  have hP : va_P D kmC (mlgW cI cN cZ a1 z1) s.heap := hP
  have hl : lv_has ls 4 [(0, .ref (a1 0)), (1, .int x1)] := hl
  unfold wp_Lg_forgetBelow at hw
  refine lv_iconst (v := (0 : Int32)) hx hb d_Lg_forgetBelow_0 (by decide) ?_
  refine lv_istore_n (lv' := [(2, .int (0 : Int32)), (0, .ref (a1 0)), (1, .int x1)]) hx hb d_Lg_forgetBelow_1 rfl hl (by decide) rfl (fun ls hl => ?_)
  refine lv_iconst (v := (0 : Int32)) hx hb d_Lg_forgetBelow_2 (by decide) ?_
  refine lv_istore_n (lv' := [(3, .int (0 : Int32)), (2, .int (0 : Int32)), (0, .ref (a1 0)), (1, .int x1)]) hx hb d_Lg_forgetBelow_3 rfl hl (by decide) rfl (fun ls hl => ?_)
  have key4 : ∀ (K4 : Int32 → Int32 → Int32 → MlgT → Prop) (hk4 : ∀ (y1 : Int32) (y2 : Int32) (y3 : Int32) (z1 : MlgT) (ls : Array Slot) (H : Heap) (locs : List Loc), K4 y1 y2 y3 z1 → lv_has ls 4 [(1, .int y1), (2, .int y2), (3, .int y3), (0, .ref (a1 0))] → va_P D kmC (mlgW cI cN cZ a1 z1) H → va_D A (mlgW cI cN cZ a1 z1) → va_S A s.heap H locs → W p l e rm_Lg_forgetBelow s m ([.ref (a1 0), .int x1] : List Value).toArray below meth c H locs 0 0 (MQ below (va_Qi (fun (r : Int32) (u : MlgT) => post r u) (km_B D kmC A (fun (u : MlgT) => (mlgW cI cN cZ a1 u))) A) ([.ref (a1 0), .int x1] : List Value).toArray s 0 0 A) (F0 m 51 ls [])) (n4 : Nat), ∀ (y1 : Int32) (y2 : Int32) (y3 : Int32) (z1 : MlgT) (ls : Array Slot) (H : Heap) (locs : List Loc), wp_Lg_forgetBelow_L4 K4 n4 y1 y2 y3 z1 → lv_has ls 4 [(1, .int y1), (2, .int y2), (3, .int y3), (0, .ref (a1 0))] → va_P D kmC (mlgW cI cN cZ a1 z1) H → va_D A (mlgW cI cN cZ a1 z1) → va_S A s.heap H locs → W p l e rm_Lg_forgetBelow s m ([.ref (a1 0), .int x1] : List Value).toArray below meth c H locs 0 0 (MQ below (va_Qi (fun (r : Int32) (u : MlgT) => post r u) (km_B D kmC A (fun (u : MlgT) => (mlgW cI cN cZ a1 u))) A) ([.ref (a1 0), .int x1] : List Value).toArray s 0 0 A) (F0 m 4 ls []) := by
    intro K4 hk4 n4
    induction n4 with
    | zero => intro y1 y2 y3 z1 ls H locs hw; exact hw.elim
    | succ n4 ih4 =>
      intro y1 y2 y3 z1 ls H locs hw hl hP hD hS
      refine lv_iload_n hx hb d_Lg_forgetBelow_4 rfl (lv_at hl 2 rfl) ?_
      refine lv_iload_n hx hb d_Lg_forgetBelow_5 rfl (lv_at hl 0 rfl) ?_
      refine lv_bipush (v := (8 : Int32)) hx hb d_Lg_forgetBelow_6 (by decide) ?_
      refine lv_imul hx hb d_Lg_forgetBelow_8 ?_
      refine lv_icmp_ge (tgt := 51) hx hb d_Lg_forgetBelow_9 (by first | rfl | decide) (fun h1 => ?_) (fun h1 => ?_)
      · have hw := hw.1 h1
        exact hk4 y1 y2 y3 z1 ls H locs hw (lv_sub hl [0, 1, 2, 3] rfl) hP hD hS
      · have hw := hw.2 h1
        refine lv_aload_n hx hb d_Lg_forgetBelow_12 rfl (lv_at hl 3 rfl) ?_
        refine va_get (D := D) (ci := 1) (v := .ref (a1 2)) (C := R_Lg) (T := F_Lg) (N := 3) hx hb hts iw_Lg hown hK.1 hP 0 rfl rfl 1 (by decide) (hts _ mw_68) (fun _ h => h) rfl d_Lg_forgetBelow_13 ?_
        refine lv_iload_n hx hb d_Lg_forgetBelow_16 rfl (lv_at hl 2 rfl) ?_
        obtain ⟨hin, hw⟩ := hw
        refine va_iald (f := (mlg_voteBallots z1)) hx hb hK.1 hP 2 0 rfl rfl hin d_Lg_forgetBelow_17 ?_
        refine lv_if_eq (tgt := 24) hx hb d_Lg_forgetBelow_18 (by first | rfl | decide) (fun h2 => ?_) (fun h2 => ?_)
        · have hw := hw.1 h2
          refine lv_aload_n hx hb d_Lg_forgetBelow_24 rfl (lv_at hl 3 rfl) ?_
          refine va_get (D := D) (ci := 1) (v := .ref (a1 1)) (C := R_Lg) (T := F_Lg) (N := 3) hx hb hts iw_Lg hown hK.1 hP 0 rfl rfl 0 (by decide) (hts _ mw_66) (fun _ h => h) rfl d_Lg_forgetBelow_25 ?_
          refine lv_iload_n hx hb d_Lg_forgetBelow_28 rfl (lv_at hl 2 rfl) ?_
          refine lv_iconst (v := (0 : Int32)) hx hb d_Lg_forgetBelow_29 (by decide) ?_
          obtain ⟨hin, hw⟩ := hw
          refine va_iast (f := (mlg_promisedBallots z1)) hx hb hK.1 hP hD hS 1 0 rfl rfl hin d_Lg_forgetBelow_30 (fun H locs hP hD hS => ?_)
          have hP : va_P D kmC (mlgW cI cN cZ a1 (mlg_s_promisedBallots z1 (upd (mlg_promisedBallots z1) (y3).toNatClampNeg (0 : Int32)))) H := hP
          have hD : va_D A (mlgW cI cN cZ a1 (mlg_s_promisedBallots z1 (upd (mlg_promisedBallots z1) (y3).toNatClampNeg (0 : Int32)))) := hD
          refine lv_aload_n hx hb d_Lg_forgetBelow_31 rfl (lv_at hl 3 rfl) ?_
          refine va_get (D := D) (ci := 1) (v := .ref (a1 2)) (C := R_Lg) (T := F_Lg) (N := 3) hx hb hts iw_Lg hown hK.1 hP 0 rfl rfl 1 (by decide) (hts _ mw_68) (fun _ h => h) rfl d_Lg_forgetBelow_32 ?_
          refine lv_iload_n hx hb d_Lg_forgetBelow_35 rfl (lv_at hl 2 rfl) ?_
          refine lv_iconst (v := (0 : Int32)) hx hb d_Lg_forgetBelow_36 (by decide) ?_
          obtain ⟨hin, hw⟩ := hw
          refine va_iast (f := (mlg_voteBallots z1)) hx hb hK.1 hP hD hS 2 0 rfl rfl hin d_Lg_forgetBelow_37 (fun H locs hP hD hS => ?_)
          have hP : va_P D kmC (mlgW cI cN cZ a1 (mlg_s_voteBallots (mlg_s_promisedBallots z1 (upd (mlg_promisedBallots z1) (y3).toNatClampNeg (0 : Int32))) (upd (mlg_voteBallots z1) (y3).toNatClampNeg (0 : Int32)))) H := hP
          have hD : va_D A (mlgW cI cN cZ a1 (mlg_s_voteBallots (mlg_s_promisedBallots z1 (upd (mlg_promisedBallots z1) (y3).toNatClampNeg (0 : Int32))) (upd (mlg_voteBallots z1) (y3).toNatClampNeg (0 : Int32)))) := hD
          refine lv_aload_n hx hb d_Lg_forgetBelow_38 rfl (lv_at hl 3 rfl) ?_
          refine va_get (D := D) (ci := 1) (v := .ref (a1 3)) (C := R_Lg) (T := F_Lg) (N := 3) hx hb hts iw_Lg hown hK.1 hP 0 rfl rfl 2 (by decide) (hts _ mw_70) (fun _ h => h) rfl d_Lg_forgetBelow_39 ?_
          refine lv_iload_n hx hb d_Lg_forgetBelow_42 rfl (lv_at hl 2 rfl) ?_
          refine lv_iconst (v := (0 : Int32)) hx hb d_Lg_forgetBelow_43 (by decide) ?_
          obtain ⟨hin, hw⟩ := hw
          refine va_iast (f := (mlg_voteCommands z1)) hx hb hK.1 hP hD hS 3 0 rfl rfl hin d_Lg_forgetBelow_44 (fun H locs hP hD hS => ?_)
          have hP : va_P D kmC (mlgW cI cN cZ a1 (mlg_s_voteCommands (mlg_s_voteBallots (mlg_s_promisedBallots z1 (upd (mlg_promisedBallots z1) (y3).toNatClampNeg (0 : Int32))) (upd (mlg_voteBallots z1) (y3).toNatClampNeg (0 : Int32))) (upd (mlg_voteCommands z1) (y3).toNatClampNeg (0 : Int32)))) H := hP
          have hD : va_D A (mlgW cI cN cZ a1 (mlg_s_voteCommands (mlg_s_voteBallots (mlg_s_promisedBallots z1 (upd (mlg_promisedBallots z1) (y3).toNatClampNeg (0 : Int32))) (upd (mlg_voteBallots z1) (y3).toNatClampNeg (0 : Int32))) (upd (mlg_voteCommands z1) (y3).toNatClampNeg (0 : Int32)))) := hD
          obtain ⟨v3, ev3⟩ : ∃ z : Int32, z = (y3 + (1 : Int32)) := ⟨_, rfl⟩
          have hw := hw v3 ev3
          refine lv_iinc (v := v3) (lv' := [(3, .int v3), (1, .int y1), (2, .int y2), (0, .ref (a1 0))]) hx hb d_Lg_forgetBelow_45 hl (k := 2) rfl ev3.symm (by decide) rfl (fun ls hl => ?_)
          refine lv_goto (tgt := 4) hx hb d_Lg_forgetBelow_48 (by first | rfl | decide) ?_
          exact ih4 y1 y2 v3 (mlg_s_voteCommands (mlg_s_voteBallots (mlg_s_promisedBallots z1 (upd (mlg_promisedBallots z1) (y3).toNatClampNeg (0 : Int32))) (upd (mlg_voteBallots z1) (y3).toNatClampNeg (0 : Int32))) (upd (mlg_voteCommands z1) (y3).toNatClampNeg (0 : Int32))) ls H locs hw (lv_sub hl [1, 2, 0, 3] rfl) hP hD hS
        · have hw := hw.2 h2
          obtain ⟨v4, ev4⟩ : ∃ z : Int32, z = (y2 + (1 : Int32)) := ⟨_, rfl⟩
          have hw := hw v4 ev4
          refine lv_iinc (v := v4) (lv' := [(2, .int v4), (1, .int y1), (3, .int y3), (0, .ref (a1 0))]) hx hb d_Lg_forgetBelow_21 hl (k := 1) rfl ev4.symm (by decide) rfl (fun ls hl => ?_)
          refine lv_aload_n hx hb d_Lg_forgetBelow_24 rfl (lv_at hl 3 rfl) ?_
          refine va_get (D := D) (ci := 1) (v := .ref (a1 1)) (C := R_Lg) (T := F_Lg) (N := 3) hx hb hts iw_Lg hown hK.1 hP 0 rfl rfl 0 (by decide) (hts _ mw_66) (fun _ h => h) rfl d_Lg_forgetBelow_25 ?_
          refine lv_iload_n hx hb d_Lg_forgetBelow_28 rfl (lv_at hl 2 rfl) ?_
          refine lv_iconst (v := (0 : Int32)) hx hb d_Lg_forgetBelow_29 (by decide) ?_
          obtain ⟨hin, hw⟩ := hw
          refine va_iast (f := (mlg_promisedBallots z1)) hx hb hK.1 hP hD hS 1 0 rfl rfl hin d_Lg_forgetBelow_30 (fun H locs hP hD hS => ?_)
          have hP : va_P D kmC (mlgW cI cN cZ a1 (mlg_s_promisedBallots z1 (upd (mlg_promisedBallots z1) (y3).toNatClampNeg (0 : Int32)))) H := hP
          have hD : va_D A (mlgW cI cN cZ a1 (mlg_s_promisedBallots z1 (upd (mlg_promisedBallots z1) (y3).toNatClampNeg (0 : Int32)))) := hD
          refine lv_aload_n hx hb d_Lg_forgetBelow_31 rfl (lv_at hl 3 rfl) ?_
          refine va_get (D := D) (ci := 1) (v := .ref (a1 2)) (C := R_Lg) (T := F_Lg) (N := 3) hx hb hts iw_Lg hown hK.1 hP 0 rfl rfl 1 (by decide) (hts _ mw_68) (fun _ h => h) rfl d_Lg_forgetBelow_32 ?_
          refine lv_iload_n hx hb d_Lg_forgetBelow_35 rfl (lv_at hl 2 rfl) ?_
          refine lv_iconst (v := (0 : Int32)) hx hb d_Lg_forgetBelow_36 (by decide) ?_
          obtain ⟨hin, hw⟩ := hw
          refine va_iast (f := (mlg_voteBallots z1)) hx hb hK.1 hP hD hS 2 0 rfl rfl hin d_Lg_forgetBelow_37 (fun H locs hP hD hS => ?_)
          have hP : va_P D kmC (mlgW cI cN cZ a1 (mlg_s_voteBallots (mlg_s_promisedBallots z1 (upd (mlg_promisedBallots z1) (y3).toNatClampNeg (0 : Int32))) (upd (mlg_voteBallots z1) (y3).toNatClampNeg (0 : Int32)))) H := hP
          have hD : va_D A (mlgW cI cN cZ a1 (mlg_s_voteBallots (mlg_s_promisedBallots z1 (upd (mlg_promisedBallots z1) (y3).toNatClampNeg (0 : Int32))) (upd (mlg_voteBallots z1) (y3).toNatClampNeg (0 : Int32)))) := hD
          refine lv_aload_n hx hb d_Lg_forgetBelow_38 rfl (lv_at hl 3 rfl) ?_
          refine va_get (D := D) (ci := 1) (v := .ref (a1 3)) (C := R_Lg) (T := F_Lg) (N := 3) hx hb hts iw_Lg hown hK.1 hP 0 rfl rfl 2 (by decide) (hts _ mw_70) (fun _ h => h) rfl d_Lg_forgetBelow_39 ?_
          refine lv_iload_n hx hb d_Lg_forgetBelow_42 rfl (lv_at hl 2 rfl) ?_
          refine lv_iconst (v := (0 : Int32)) hx hb d_Lg_forgetBelow_43 (by decide) ?_
          obtain ⟨hin, hw⟩ := hw
          refine va_iast (f := (mlg_voteCommands z1)) hx hb hK.1 hP hD hS 3 0 rfl rfl hin d_Lg_forgetBelow_44 (fun H locs hP hD hS => ?_)
          have hP : va_P D kmC (mlgW cI cN cZ a1 (mlg_s_voteCommands (mlg_s_voteBallots (mlg_s_promisedBallots z1 (upd (mlg_promisedBallots z1) (y3).toNatClampNeg (0 : Int32))) (upd (mlg_voteBallots z1) (y3).toNatClampNeg (0 : Int32))) (upd (mlg_voteCommands z1) (y3).toNatClampNeg (0 : Int32)))) H := hP
          have hD : va_D A (mlgW cI cN cZ a1 (mlg_s_voteCommands (mlg_s_voteBallots (mlg_s_promisedBallots z1 (upd (mlg_promisedBallots z1) (y3).toNatClampNeg (0 : Int32))) (upd (mlg_voteBallots z1) (y3).toNatClampNeg (0 : Int32))) (upd (mlg_voteCommands z1) (y3).toNatClampNeg (0 : Int32)))) := hD
          obtain ⟨v5, ev5⟩ : ∃ z : Int32, z = (y3 + (1 : Int32)) := ⟨_, rfl⟩
          have hw := hw v5 ev5
          refine lv_iinc (v := v5) (lv' := [(3, .int v5), (2, .int v4), (1, .int y1), (0, .ref (a1 0))]) hx hb d_Lg_forgetBelow_45 hl (k := 2) rfl ev5.symm (by decide) rfl (fun ls hl => ?_)
          refine lv_goto (tgt := 4) hx hb d_Lg_forgetBelow_48 (by first | rfl | decide) ?_
          exact ih4 y1 v4 v5 (mlg_s_voteCommands (mlg_s_voteBallots (mlg_s_promisedBallots z1 (upd (mlg_promisedBallots z1) (y3).toNatClampNeg (0 : Int32))) (upd (mlg_voteBallots z1) (y3).toNatClampNeg (0 : Int32))) (upd (mlg_voteCommands z1) (y3).toNatClampNeg (0 : Int32))) ls H locs hw (lv_sub hl [2, 1, 0, 3] rfl) hP hD hS
  obtain ⟨n4, hw⟩ := hw
  refine key4 _ (fun y1 y2 y3 z1 ls H locs hw hl hP hD hS => ?_) n4 x1 (0 : Int32) (0 : Int32) z1 ls s.heap [] hw (lv_sub hl [3, 1, 0, 2] rfl) hP hD hS
  refine lv_iload_n hx hb d_Lg_forgetBelow_51 rfl (lv_at hl 1 rfl) ?_
  exact W.iret (v := y2) hx hb hr (fun t ht hW => ⟨⟨y2, z1, rfl, hw, by rw [ht]; exact hP, hD⟩, hS.F ht⟩) hS.2.2 d_Lg_forgetBelow_52
