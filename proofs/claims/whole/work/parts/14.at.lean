theorem d_At_isOpen_0 : decode b_At_isOpen 0 = .ok (.aload_n 0, 1) := by decide +kernel
theorem d_At_isOpen_1 : decode b_At_isOpen 1 = .ok (.getfield 9, 3) := by decide +kernel
theorem d_At_isOpen_4 : decode b_At_isOpen 4 = .ok (.ifCond .eq 7, 3) := by decide +kernel
theorem d_At_isOpen_7 : decode b_At_isOpen 7 = .ok (.iconst 1, 1) := by decide +kernel
theorem d_At_isOpen_8 : decode b_At_isOpen 8 = .ok (.goto 4, 3) := by decide +kernel
theorem d_At_isOpen_11 : decode b_At_isOpen 11 = .ok (.iconst 0, 1) := by decide +kernel
theorem d_At_isOpen_12 : decode b_At_isOpen 12 = .ok (.ireturn, 1) := by decide +kernel
theorem d_At_begin_0 : decode b_At_begin 0 = .ok (.aload_n 0, 1) := by decide +kernel
theorem d_At_begin_1 : decode b_At_begin 1 = .ok (.iload_n 1, 1) := by decide +kernel
theorem d_At_begin_2 : decode b_At_begin 2 = .ok (.putfield 9, 3) := by decide +kernel
theorem d_At_begin_5 : decode b_At_begin 5 = .ok (.aload_n 0, 1) := by decide +kernel
theorem d_At_begin_6 : decode b_At_begin 6 = .ok (.iload_n 2, 1) := by decide +kernel
theorem d_At_begin_7 : decode b_At_begin 7 = .ok (.putfield 15, 3) := by decide +kernel
theorem d_At_begin_10 : decode b_At_begin 10 = .ok (.aload_n 0, 1) := by decide +kernel
theorem d_At_begin_11 : decode b_At_begin 11 = .ok (.iconst 0, 1) := by decide +kernel
theorem d_At_begin_12 : decode b_At_begin 12 = .ok (.putfield 18, 3) := by decide +kernel
theorem d_At_begin_15 : decode b_At_begin 15 = .ok (.aload_n 0, 1) := by decide +kernel
theorem d_At_begin_16 : decode b_At_begin 16 = .ok (.iconst 0, 1) := by decide +kernel
theorem d_At_begin_17 : decode b_At_begin 17 = .ok (.putfield 21, 3) := by decide +kernel
theorem d_At_begin_20 : decode b_At_begin 20 = .ok (.aload_n 0, 1) := by decide +kernel
theorem d_At_begin_21 : decode b_At_begin 21 = .ok (.iconst 0, 1) := by decide +kernel
theorem d_At_begin_22 : decode b_At_begin 22 = .ok (.putfield 24, 3) := by decide +kernel
theorem d_At_begin_25 : decode b_At_begin 25 = .ok (.aload_n 0, 1) := by decide +kernel
theorem d_At_begin_26 : decode b_At_begin 26 = .ok (.iconst 0, 1) := by decide +kernel
theorem d_At_begin_27 : decode b_At_begin 27 = .ok (.putfield 27, 3) := by decide +kernel
theorem d_At_begin_30 : decode b_At_begin 30 = .ok (.aload_n 0, 1) := by decide +kernel
theorem d_At_begin_31 : decode b_At_begin 31 = .ok (.iconst (-1), 1) := by decide +kernel
theorem d_At_begin_32 : decode b_At_begin 32 = .ok (.putfield 30, 3) := by decide +kernel
theorem d_At_begin_35 : decode b_At_begin 35 = .ok (.return_, 1) := by decide +kernel
theorem d_At_end_0 : decode b_At_end 0 = .ok (.aload_n 0, 1) := by decide +kernel
theorem d_At_end_1 : decode b_At_end 1 = .ok (.iconst 0, 1) := by decide +kernel
theorem d_At_end_2 : decode b_At_end 2 = .ok (.iconst 0, 1) := by decide +kernel
theorem d_At_end_3 : decode b_At_end 3 = .ok (.invokevirtual 33, 3) := by decide +kernel
theorem d_At_end_6 : decode b_At_end 6 = .ok (.return_, 1) := by decide +kernel
theorem d_At_addPromiser_0 : decode b_At_addPromiser 0 = .ok (.aload_n 0, 1) := by decide +kernel
theorem d_At_addPromiser_1 : decode b_At_addPromiser 1 = .ok (.dup, 1) := by decide +kernel
theorem d_At_addPromiser_2 : decode b_At_addPromiser 2 = .ok (.getfield 18, 3) := by decide +kernel
theorem d_At_addPromiser_5 : decode b_At_addPromiser 5 = .ok (.iconst 1, 1) := by decide +kernel
theorem d_At_addPromiser_6 : decode b_At_addPromiser 6 = .ok (.iload_n 1, 1) := by decide +kernel
theorem d_At_addPromiser_7 : decode b_At_addPromiser 7 = .ok (.ishl, 1) := by decide +kernel
theorem d_At_addPromiser_8 : decode b_At_addPromiser 8 = .ok (.ior, 1) := by decide +kernel
theorem d_At_addPromiser_9 : decode b_At_addPromiser 9 = .ok (.putfield 18, 3) := by decide +kernel
theorem d_At_addPromiser_12 : decode b_At_addPromiser 12 = .ok (.iload_n 2, 1) := by decide +kernel
theorem d_At_addPromiser_13 : decode b_At_addPromiser 13 = .ok (.aload_n 0, 1) := by decide +kernel
theorem d_At_addPromiser_14 : decode b_At_addPromiser 14 = .ok (.getfield 24, 3) := by decide +kernel
theorem d_At_addPromiser_17 : decode b_At_addPromiser 17 = .ok (.if_icmp .le 13, 3) := by decide +kernel
theorem d_At_addPromiser_20 : decode b_At_addPromiser 20 = .ok (.aload_n 0, 1) := by decide +kernel
theorem d_At_addPromiser_21 : decode b_At_addPromiser 21 = .ok (.iload_n 2, 1) := by decide +kernel
theorem d_At_addPromiser_22 : decode b_At_addPromiser 22 = .ok (.putfield 24, 3) := by decide +kernel
theorem d_At_addPromiser_25 : decode b_At_addPromiser 25 = .ok (.aload_n 0, 1) := by decide +kernel
theorem d_At_addPromiser_26 : decode b_At_addPromiser 26 = .ok (.iload_n 3, 1) := by decide +kernel
theorem d_At_addPromiser_27 : decode b_At_addPromiser 27 = .ok (.putfield 27, 3) := by decide +kernel
theorem d_At_addPromiser_30 : decode b_At_addPromiser 30 = .ok (.return_, 1) := by decide +kernel
def wp_At_isOpen (z1 : MatT) (post : Int32 → MatT → Prop) : Prop := (((mat_slot z1) = (0 : Int32) → (post (0 : Int32) z1)) ∧ (¬ (mat_slot z1) = (0 : Int32) → (post (1 : Int32) z1)))
abbrev rm_At_isOpen : Room := { frames := 0, cells := 0, slots := 0, locals := 0 }
def wp_At_begin (z1 : MatT) (x1 : Int32) (x2 : Int32) (post : MatT → Prop) : Prop := (post (mat_s_command (mat_s_bestCommand (mat_s_bestBallot (mat_s_voters (mat_s_promisers (mat_s_ballot (mat_s_slot z1 x1) x2) (0 : Int32)) (0 : Int32)) (0 : Int32)) (0 : Int32)) (-1 : Int32)))
abbrev rm_At_begin : Room := { frames := 0, cells := 0, slots := 0, locals := 0 }
def wp_At_end (z1 : MatT) (post : MatT → Prop) : Prop := (wp_At_begin z1 (0 : Int32) (0 : Int32) (fun (u2 : MatT) => (post u2)))
abbrev rm_At_end : Room := { frames := 1, cells := 0, slots := 0, locals := 22 }
def wp_At_addPromiser (z1 : MatT) (x1 : Int32) (x2 : Int32) (x3 : Int32) (post : MatT → Prop) : Prop := ((x2 ≤ (mat_bestBallot z1) → (post (mat_s_promisers z1 ((mat_promisers z1) ||| ((1 : Int32) <<< (x1 &&& 31)))))) ∧ (¬ x2 ≤ (mat_bestBallot z1) → (post (mat_s_bestCommand (mat_s_bestBallot (mat_s_promisers z1 ((mat_promisers z1) ||| ((1 : Int32) <<< (x1 &&& 31)))) x2) x3))))
abbrev rm_At_addPromiser : Room := { frames := 0, cells := 0, slots := 0, locals := 0 }
set_option maxHeartbeats 4000000 in
set_option maxRecDepth 100000 in
theorem c_At_isOpen (l : Launch) (D : va_G) (cI cN cZ : ClassId) (a1 : Nat → Nat) (z1 : MatT) (post : Int32 → MatT → Prop) (hw : wp_At_isOpen z1 post) : km_I l y_At_isOpen (.code y_At_isOpen b_At_isOpen 1 (some .boolean) :: kmW) rm_At_isOpen D kmC (kmT cI cN cZ) kmF kmM [.ref (a1 0)] (matW cI cN cZ a1 z1) (fun (r : Int32) (u : MatT) => post r u) (fun (u : MatT) => (matW cI cN cZ a1 u)) 0 0 := by
  refine km_startI (cc := b_At_isOpen) (maxL := 1) (ret := (some .boolean)) (by decide) rfl (Nat.le_of_ble_eq_true rfl) ?_
  intro p e s m below meth c A ls hE hA hK hP hD hS hl
  obtain ⟨hx, hb, hr, hml, hown, hts0, hlk, hnm⟩ := id hE
  have hts : ∀ w ∈ kmW, w.before ([.ref (a1 0)] : List Value).toArray s = true := fun w h => hts0 w (List.mem_cons_of_mem _ h)
  have hP : va_P D kmC (matW cI cN cZ a1 z1) s.heap := hP
  have hl : lv_has ls 1 [(0, .ref (a1 0))] := hl
  unfold wp_At_isOpen at hw
  refine lv_aload_n hx hb d_At_isOpen_0 rfl (lv_at hl 0 rfl) ?_
  refine va_get (D := D) (ci := 0) (v := .int (mat_slot z1)) (C := R_At) (T := F_At) (N := 7) hx hb hts iw_At hown hK.1 hP 0 rfl rfl 0 (by decide) (hts _ mw_85) (fun _ h => h) rfl d_At_isOpen_1 ?_
  refine lv_if_eq (tgt := 11) hx hb d_At_isOpen_4 (by first | rfl | decide) (fun h1 => ?_) (fun h1 => ?_)
  · have hw := hw.1 h1
    refine lv_iconst (v := (0 : Int32)) hx hb d_At_isOpen_11 (by decide) ?_
    exact W.zret (ty := .boolean) (v := (0 : Int32)) hx hb hr (by decide) (fun t ht hW => ⟨⟨(0 : Int32), z1, rfl, hw, by rw [ht]; exact hP, hD⟩, hS.F ht⟩) hS.2.2 d_At_isOpen_12
  · have hw := hw.2 h1
    refine lv_iconst (v := (1 : Int32)) hx hb d_At_isOpen_7 (by decide) ?_
    refine lv_goto (tgt := 12) hx hb d_At_isOpen_8 (by first | rfl | decide) ?_
    exact W.zret (ty := .boolean) (v := (1 : Int32)) hx hb hr (by decide) (fun t ht hW => ⟨⟨(1 : Int32), z1, rfl, hw, by rw [ht]; exact hP, hD⟩, hS.F ht⟩) hS.2.2 d_At_isOpen_12
set_option maxHeartbeats 4000000 in
set_option maxRecDepth 100000 in
theorem c_At_begin (l : Launch) (D : va_G) (cI cN cZ : ClassId) (a1 : Nat → Nat) (z1 : MatT) (x1 : Int32) (x2 : Int32) (post : MatT → Prop) (hw : wp_At_begin z1 x1 x2 post) : km_V l y_At_begin (.code y_At_begin b_At_begin 3 none :: kmW) rm_At_begin D kmC (kmT cI cN cZ) kmF kmM [.ref (a1 0), .int x1, .int x2] (matW cI cN cZ a1 z1) (fun (u : MatT) => post u) (fun (u : MatT) => (matW cI cN cZ a1 u)) 0 0 := by
  refine km_startV (cc := b_At_begin) (maxL := 3) (ret := none) (by decide) rfl (Nat.le_of_ble_eq_true rfl) ?_
  intro p e s m below meth c A ls hE hA hK hP hD hS hl
  obtain ⟨hx, hb, hr, hml, hown, hts0, hlk, hnm⟩ := id hE
  have hts : ∀ w ∈ kmW, w.before ([.ref (a1 0), .int x1, .int x2] : List Value).toArray s = true := fun w h => hts0 w (List.mem_cons_of_mem _ h)
  have hP : va_P D kmC (matW cI cN cZ a1 z1) s.heap := hP
  have hl : lv_has ls 3 [(0, .ref (a1 0)), (1, .int x1), (2, .int x2)] := hl
  unfold wp_At_begin at hw
  refine lv_aload_n hx hb d_At_begin_0 rfl (lv_at hl 0 rfl) ?_
  refine lv_iload_n hx hb d_At_begin_1 rfl (lv_at hl 1 rfl) ?_
  refine va_put (D := D) (ci := 0) (v := .int x1) (ty := .int) (C := R_At) (T := F_At) (N := 7) hx hb hts iw_At t_At t_At_ok n_At hown hK.1 hP hD hS 0 rfl rfl 0 (by decide) (hts _ mw_85) (fun _ h => h) rfl (t_At_ok 0 (by decide)) rfl rfl (Nat.le_of_ble_eq_true rfl) d_At_begin_2 (fun H locs hP hD hS => ?_)
  have hP : va_P D kmC (matW cI cN cZ a1 (mat_s_slot z1 x1)) H := hP
  have hD : va_D A (matW cI cN cZ a1 (mat_s_slot z1 x1)) := hD
  refine lv_aload_n hx hb d_At_begin_5 rfl (lv_at hl 0 rfl) ?_
  refine lv_iload_n hx hb d_At_begin_6 rfl (lv_at hl 2 rfl) ?_
  refine va_put (D := D) (ci := 0) (v := .int x2) (ty := .int) (C := R_At) (T := F_At) (N := 7) hx hb hts iw_At t_At t_At_ok n_At hown hK.1 hP hD hS 0 rfl rfl 1 (by decide) (hts _ mw_88) (fun _ h => h) rfl (t_At_ok 1 (by decide)) rfl rfl (Nat.le_of_ble_eq_true rfl) d_At_begin_7 (fun H locs hP hD hS => ?_)
  have hP : va_P D kmC (matW cI cN cZ a1 (mat_s_ballot (mat_s_slot z1 x1) x2)) H := hP
  have hD : va_D A (matW cI cN cZ a1 (mat_s_ballot (mat_s_slot z1 x1) x2)) := hD
  refine lv_aload_n hx hb d_At_begin_10 rfl (lv_at hl 0 rfl) ?_
  refine lv_iconst (v := (0 : Int32)) hx hb d_At_begin_11 (by decide) ?_
  refine va_put (D := D) (ci := 0) (v := .int (0 : Int32)) (ty := .int) (C := R_At) (T := F_At) (N := 7) hx hb hts iw_At t_At t_At_ok n_At hown hK.1 hP hD hS 0 rfl rfl 2 (by decide) (hts _ mw_90) (fun _ h => h) rfl (t_At_ok 2 (by decide)) rfl rfl (Nat.le_of_ble_eq_true rfl) d_At_begin_12 (fun H locs hP hD hS => ?_)
  have hP : va_P D kmC (matW cI cN cZ a1 (mat_s_promisers (mat_s_ballot (mat_s_slot z1 x1) x2) (0 : Int32))) H := hP
  have hD : va_D A (matW cI cN cZ a1 (mat_s_promisers (mat_s_ballot (mat_s_slot z1 x1) x2) (0 : Int32))) := hD
  refine lv_aload_n hx hb d_At_begin_15 rfl (lv_at hl 0 rfl) ?_
  refine lv_iconst (v := (0 : Int32)) hx hb d_At_begin_16 (by decide) ?_
  refine va_put (D := D) (ci := 0) (v := .int (0 : Int32)) (ty := .int) (C := R_At) (T := F_At) (N := 7) hx hb hts iw_At t_At t_At_ok n_At hown hK.1 hP hD hS 0 rfl rfl 3 (by decide) (hts _ mw_92) (fun _ h => h) rfl (t_At_ok 3 (by decide)) rfl rfl (Nat.le_of_ble_eq_true rfl) d_At_begin_17 (fun H locs hP hD hS => ?_)
  have hP : va_P D kmC (matW cI cN cZ a1 (mat_s_voters (mat_s_promisers (mat_s_ballot (mat_s_slot z1 x1) x2) (0 : Int32)) (0 : Int32))) H := hP
  have hD : va_D A (matW cI cN cZ a1 (mat_s_voters (mat_s_promisers (mat_s_ballot (mat_s_slot z1 x1) x2) (0 : Int32)) (0 : Int32))) := hD
  refine lv_aload_n hx hb d_At_begin_20 rfl (lv_at hl 0 rfl) ?_
  refine lv_iconst (v := (0 : Int32)) hx hb d_At_begin_21 (by decide) ?_
  refine va_put (D := D) (ci := 0) (v := .int (0 : Int32)) (ty := .int) (C := R_At) (T := F_At) (N := 7) hx hb hts iw_At t_At t_At_ok n_At hown hK.1 hP hD hS 0 rfl rfl 4 (by decide) (hts _ mw_95) (fun _ h => h) rfl (t_At_ok 4 (by decide)) rfl rfl (Nat.le_of_ble_eq_true rfl) d_At_begin_22 (fun H locs hP hD hS => ?_)
  have hP : va_P D kmC (matW cI cN cZ a1 (mat_s_bestBallot (mat_s_voters (mat_s_promisers (mat_s_ballot (mat_s_slot z1 x1) x2) (0 : Int32)) (0 : Int32)) (0 : Int32))) H := hP
  have hD : va_D A (matW cI cN cZ a1 (mat_s_bestBallot (mat_s_voters (mat_s_promisers (mat_s_ballot (mat_s_slot z1 x1) x2) (0 : Int32)) (0 : Int32)) (0 : Int32))) := hD
  refine lv_aload_n hx hb d_At_begin_25 rfl (lv_at hl 0 rfl) ?_
  refine lv_iconst (v := (0 : Int32)) hx hb d_At_begin_26 (by decide) ?_
  refine va_put (D := D) (ci := 0) (v := .int (0 : Int32)) (ty := .int) (C := R_At) (T := F_At) (N := 7) hx hb hts iw_At t_At t_At_ok n_At hown hK.1 hP hD hS 0 rfl rfl 5 (by decide) (hts _ mw_97) (fun _ h => h) rfl (t_At_ok 5 (by decide)) rfl rfl (Nat.le_of_ble_eq_true rfl) d_At_begin_27 (fun H locs hP hD hS => ?_)
  have hP : va_P D kmC (matW cI cN cZ a1 (mat_s_bestCommand (mat_s_bestBallot (mat_s_voters (mat_s_promisers (mat_s_ballot (mat_s_slot z1 x1) x2) (0 : Int32)) (0 : Int32)) (0 : Int32)) (0 : Int32))) H := hP
  have hD : va_D A (matW cI cN cZ a1 (mat_s_bestCommand (mat_s_bestBallot (mat_s_voters (mat_s_promisers (mat_s_ballot (mat_s_slot z1 x1) x2) (0 : Int32)) (0 : Int32)) (0 : Int32)) (0 : Int32))) := hD
  refine lv_aload_n hx hb d_At_begin_30 rfl (lv_at hl 0 rfl) ?_
  refine lv_iconst (v := (-1 : Int32)) hx hb d_At_begin_31 (by decide) ?_
  refine va_put (D := D) (ci := 0) (v := .int (-1 : Int32)) (ty := .int) (C := R_At) (T := F_At) (N := 7) hx hb hts iw_At t_At t_At_ok n_At hown hK.1 hP hD hS 0 rfl rfl 6 (by decide) (hts _ mw_99) (fun _ h => h) rfl (t_At_ok 6 (by decide)) rfl rfl (Nat.le_of_ble_eq_true rfl) d_At_begin_32 (fun H locs hP hD hS => ?_)
  have hP : va_P D kmC (matW cI cN cZ a1 (mat_s_command (mat_s_bestCommand (mat_s_bestBallot (mat_s_voters (mat_s_promisers (mat_s_ballot (mat_s_slot z1 x1) x2) (0 : Int32)) (0 : Int32)) (0 : Int32)) (0 : Int32)) (-1 : Int32))) H := hP
  have hD : va_D A (matW cI cN cZ a1 (mat_s_command (mat_s_bestCommand (mat_s_bestBallot (mat_s_voters (mat_s_promisers (mat_s_ballot (mat_s_slot z1 x1) x2) (0 : Int32)) (0 : Int32)) (0 : Int32)) (0 : Int32)) (-1 : Int32))) := hD
  exact W.vret hx hb hr (fun t ht hW => ⟨⟨(mat_s_command (mat_s_bestCommand (mat_s_bestBallot (mat_s_voters (mat_s_promisers (mat_s_ballot (mat_s_slot z1 x1) x2) (0 : Int32)) (0 : Int32)) (0 : Int32)) (0 : Int32)) (-1 : Int32)), rfl, hw, by rw [ht]; exact hP, hD⟩, hS.F ht⟩) hS.2.2 d_At_begin_35
set_option maxHeartbeats 4000000 in
set_option maxRecDepth 100000 in
theorem c_At_end (l : Launch) (D : va_G) (cI cN cZ : ClassId) (a1 : Nat → Nat) (z1 : MatT) (post : MatT → Prop) (hw : wp_At_end z1 post) : km_V l y_At_end (.code y_At_end b_At_end 1 none :: kmW) rm_At_end D kmC (kmT cI cN cZ) kmF kmM [.ref (a1 0)] (matW cI cN cZ a1 z1) (fun (u : MatT) => post u) (fun (u : MatT) => (matW cI cN cZ a1 u)) 0 0 := by
  refine km_startV (cc := b_At_end) (maxL := 1) (ret := none) (by decide) rfl (Nat.le_of_ble_eq_true rfl) ?_
  intro p e s m below meth c A ls hE hA hK hP hD hS hl
  obtain ⟨hx, hb, hr, hml, hown, hts0, hlk, hnm⟩ := id hE
  have hts : ∀ w ∈ kmW, w.before ([.ref (a1 0)] : List Value).toArray s = true := fun w h => hts0 w (List.mem_cons_of_mem _ h)
  have hP : va_P D kmC (matW cI cN cZ a1 z1) s.heap := hP
  have hl : lv_has ls 1 [(0, .ref (a1 0))] := hl
  unfold wp_At_end at hw
  refine lv_aload_n hx hb d_At_end_0 rfl (lv_at hl 0 rfl) ?_
  refine lv_iconst (v := (0 : Int32)) hx hb d_At_end_1 (by decide) ?_
  refine lv_iconst (v := (0 : Int32)) hx hb d_At_end_2 (by decide) ?_
  refine km_cv (wr := []) (km_rV (n := 2) hE kmG (c_At_begin l D cI cN cZ a1 z1 (0 : Int32) (0 : Int32) _ hw) mw_266 mw_306 mw_265 mp_8 mw_5 (by decide) ⟨rfl, rfl, ⟨by decide, by decide⟩, by decide, by decide⟩ hK (km_cut hP [0] rfl) (hD.sub [0] (by decide) rfl) (ci := 0) rfl hP (q0 := 0) rfl rfl hl.1 rfl (Nat.le_of_ble_eq_true rfl) d_At_end_3) hP hD hS hA [0] [] rfl rfl (by decide) (by decide) (fun u2 H locs hw hP hD hS => ?_)
  have hP : va_P D kmC (matW cI cN cZ a1 u2) H := hP
  have hD : va_D A (matW cI cN cZ a1 u2) := hD
  exact W.vret hx hb hr (fun t ht hW => ⟨⟨u2, rfl, hw, by rw [ht]; exact hP, hD⟩, hS.F ht⟩) hS.2.2 d_At_end_6
set_option maxHeartbeats 4000000 in
set_option maxRecDepth 100000 in
theorem c_At_addPromiser (l : Launch) (D : va_G) (cI cN cZ : ClassId) (a1 : Nat → Nat) (z1 : MatT) (x1 : Int32) (x2 : Int32) (x3 : Int32) (post : MatT → Prop) (hw : wp_At_addPromiser z1 x1 x2 x3 post) : km_V l y_At_addPromiser (.code y_At_addPromiser b_At_addPromiser 4 none :: kmW) rm_At_addPromiser D kmC (kmT cI cN cZ) kmF kmM [.ref (a1 0), .int x1, .int x2, .int x3] (matW cI cN cZ a1 z1) (fun (u : MatT) => post u) (fun (u : MatT) => (matW cI cN cZ a1 u)) 0 0 := by
  refine km_startV (cc := b_At_addPromiser) (maxL := 4) (ret := none) (by decide) rfl (Nat.le_of_ble_eq_true rfl) ?_
  intro p e s m below meth c A ls hE hA hK hP hD hS hl
  obtain ⟨hx, hb, hr, hml, hown, hts0, hlk, hnm⟩ := id hE
  have hts : ∀ w ∈ kmW, w.before ([.ref (a1 0), .int x1, .int x2, .int x3] : List Value).toArray s = true := fun w h => hts0 w (List.mem_cons_of_mem _ h)
  have hP : va_P D kmC (matW cI cN cZ a1 z1) s.heap := hP
  have hl : lv_has ls 4 [(0, .ref (a1 0)), (1, .int x1), (2, .int x2), (3, .int x3)] := hl
  unfold wp_At_addPromiser at hw
  refine lv_aload_n hx hb d_At_addPromiser_0 rfl (lv_at hl 0 rfl) ?_
  refine lv_dup hx hb d_At_addPromiser_1 rfl ?_
  refine va_get (D := D) (ci := 0) (v := .int (mat_promisers z1)) (C := R_At) (T := F_At) (N := 7) hx hb hts iw_At hown hK.1 hP 0 rfl rfl 2 (by decide) (hts _ mw_90) (fun _ h => h) rfl d_At_addPromiser_2 ?_
  refine lv_iconst (v := (1 : Int32)) hx hb d_At_addPromiser_5 (by decide) ?_
  refine lv_iload_n hx hb d_At_addPromiser_6 rfl (lv_at hl 1 rfl) ?_
  refine lv_ishl hx hb d_At_addPromiser_7 ?_
  refine lv_ior hx hb d_At_addPromiser_8 ?_
  refine va_put (D := D) (ci := 0) (v := .int ((mat_promisers z1) ||| ((1 : Int32) <<< (x1 &&& 31)))) (ty := .int) (C := R_At) (T := F_At) (N := 7) hx hb hts iw_At t_At t_At_ok n_At hown hK.1 hP hD hS 0 rfl rfl 2 (by decide) (hts _ mw_90) (fun _ h => h) rfl (t_At_ok 2 (by decide)) rfl rfl (Nat.le_of_ble_eq_true rfl) d_At_addPromiser_9 (fun H locs hP hD hS => ?_)
  have hP : va_P D kmC (matW cI cN cZ a1 (mat_s_promisers z1 ((mat_promisers z1) ||| ((1 : Int32) <<< (x1 &&& 31))))) H := hP
  have hD : va_D A (matW cI cN cZ a1 (mat_s_promisers z1 ((mat_promisers z1) ||| ((1 : Int32) <<< (x1 &&& 31))))) := hD
  refine lv_iload_n hx hb d_At_addPromiser_12 rfl (lv_at hl 2 rfl) ?_
  refine lv_aload_n hx hb d_At_addPromiser_13 rfl (lv_at hl 0 rfl) ?_
  refine va_get (D := D) (ci := 0) (v := .int (mat_bestBallot z1)) (C := R_At) (T := F_At) (N := 7) hx hb hts iw_At hown hK.1 hP 0 rfl rfl 4 (by decide) (hts _ mw_95) (fun _ h => h) rfl d_At_addPromiser_14 ?_
  refine lv_icmp_le (tgt := 30) hx hb d_At_addPromiser_17 (by first | rfl | decide) (fun h1 => ?_) (fun h1 => ?_)
  · have hw := hw.1 h1
    exact W.vret hx hb hr (fun t ht hW => ⟨⟨(mat_s_promisers z1 ((mat_promisers z1) ||| ((1 : Int32) <<< (x1 &&& 31)))), rfl, hw, by rw [ht]; exact hP, hD⟩, hS.F ht⟩) hS.2.2 d_At_addPromiser_30
  · have hw := hw.2 h1
    refine lv_aload_n hx hb d_At_addPromiser_20 rfl (lv_at hl 0 rfl) ?_
    refine lv_iload_n hx hb d_At_addPromiser_21 rfl (lv_at hl 2 rfl) ?_
    refine va_put (D := D) (ci := 0) (v := .int x2) (ty := .int) (C := R_At) (T := F_At) (N := 7) hx hb hts iw_At t_At t_At_ok n_At hown hK.1 hP hD hS 0 rfl rfl 4 (by decide) (hts _ mw_95) (fun _ h => h) rfl (t_At_ok 4 (by decide)) rfl rfl (Nat.le_of_ble_eq_true rfl) d_At_addPromiser_22 (fun H locs hP hD hS => ?_)
    have hP : va_P D kmC (matW cI cN cZ a1 (mat_s_bestBallot (mat_s_promisers z1 ((mat_promisers z1) ||| ((1 : Int32) <<< (x1 &&& 31)))) x2)) H := hP
    have hD : va_D A (matW cI cN cZ a1 (mat_s_bestBallot (mat_s_promisers z1 ((mat_promisers z1) ||| ((1 : Int32) <<< (x1 &&& 31)))) x2)) := hD
    refine lv_aload_n hx hb d_At_addPromiser_25 rfl (lv_at hl 0 rfl) ?_
    refine lv_iload_n hx hb d_At_addPromiser_26 rfl (lv_at hl 3 rfl) ?_
    refine va_put (D := D) (ci := 0) (v := .int x3) (ty := .int) (C := R_At) (T := F_At) (N := 7) hx hb hts iw_At t_At t_At_ok n_At hown hK.1 hP hD hS 0 rfl rfl 5 (by decide) (hts _ mw_97) (fun _ h => h) rfl (t_At_ok 5 (by decide)) rfl rfl (Nat.le_of_ble_eq_true rfl) d_At_addPromiser_27 (fun H locs hP hD hS => ?_)
    have hP : va_P D kmC (matW cI cN cZ a1 (mat_s_bestCommand (mat_s_bestBallot (mat_s_promisers z1 ((mat_promisers z1) ||| ((1 : Int32) <<< (x1 &&& 31)))) x2) x3)) H := hP
    have hD : va_D A (matW cI cN cZ a1 (mat_s_bestCommand (mat_s_bestBallot (mat_s_promisers z1 ((mat_promisers z1) ||| ((1 : Int32) <<< (x1 &&& 31)))) x2) x3)) := hD
    exact W.vret hx hb hr (fun t ht hW => ⟨⟨(mat_s_bestCommand (mat_s_bestBallot (mat_s_promisers z1 ((mat_promisers z1) ||| ((1 : Int32) <<< (x1 &&& 31)))) x2) x3), rfl, hw, by rw [ht]; exact hP, hD⟩, hS.F ht⟩) hS.2.2 d_At_addPromiser_30
