/-! constructors -/
def st0 : MstT := (0, 7, 0, fun _ => 0, 0, fun _ => 0)
def lg0 : MlgT := (fun _ => 0, fun _ => 0, fun _ => 0)
def at0 : MatT := (0, 0, 0, 0, 0, 0, -1)
def nd0 (x : Int32) : MndT := (x, 1, st0, lg0, 0, 0, fun j => if j < 9 then (-1 : Int32) else (fun _ => (0 : Int32)) j, 0, at0)
def bk0 : MbkT := (fun _ => 0, fun _ => 0, fun _ => 0, 0)
def ch0 : MchT := (bk0, fun _ => 0, fun _ => 0, 0)
theorem d_St_init_0 : decode b_St_init 0 = .ok (.aload_n 0, 1) := by decide +kernel
theorem d_St_init_1 : decode b_St_init 1 = .ok (.invokespecial 3, 3) := by decide +kernel
theorem d_St_init_4 : decode b_St_init 4 = .ok (.aload_n 0, 1) := by decide +kernel
theorem d_St_init_5 : decode b_St_init 5 = .ok (.iconst 0, 1) := by decide +kernel
theorem d_St_init_6 : decode b_St_init 6 = .ok (.putfield 9, 3) := by decide +kernel
theorem d_St_init_9 : decode b_St_init 9 = .ok (.aload_n 0, 1) := by decide +kernel
theorem d_St_init_10 : decode b_St_init 10 = .ok (.bipush 7, 2) := by decide +kernel
theorem d_St_init_12 : decode b_St_init 12 = .ok (.putfield 15, 3) := by decide +kernel
theorem d_St_init_15 : decode b_St_init 15 = .ok (.aload_n 0, 1) := by decide +kernel
theorem d_St_init_16 : decode b_St_init 16 = .ok (.iconst 0, 1) := by decide +kernel
theorem d_St_init_17 : decode b_St_init 17 = .ok (.putfield 18, 3) := by decide +kernel
theorem d_St_init_20 : decode b_St_init 20 = .ok (.aload_n 0, 1) := by decide +kernel
theorem d_St_init_21 : decode b_St_init 21 = .ok (.iconst 4, 1) := by decide +kernel
theorem d_St_init_22 : decode b_St_init 22 = .ok (.newarray .int, 2) := by decide +kernel
theorem d_St_init_24 : decode b_St_init 24 = .ok (.putfield 21, 3) := by decide +kernel
theorem d_St_init_27 : decode b_St_init 27 = .ok (.aload_n 0, 1) := by decide +kernel
theorem d_St_init_28 : decode b_St_init 28 = .ok (.iconst 0, 1) := by decide +kernel
theorem d_St_init_29 : decode b_St_init 29 = .ok (.putfield 25, 3) := by decide +kernel
theorem d_St_init_32 : decode b_St_init 32 = .ok (.aload_n 0, 1) := by decide +kernel
theorem d_St_init_33 : decode b_St_init 33 = .ok (.bipush 31, 2) := by decide +kernel
theorem d_St_init_35 : decode b_St_init 35 = .ok (.newarray .int, 2) := by decide +kernel
theorem d_St_init_37 : decode b_St_init 37 = .ok (.putfield 28, 3) := by decide +kernel
theorem d_St_init_40 : decode b_St_init 40 = .ok (.return_, 1) := by decide +kernel
abbrev rm_St_init : Room := { frames := 1, cells := 2, slots := 35, locals := 20 }
set_option maxHeartbeats 4000000 in
set_option maxRecDepth 100000 in
theorem c_St_init (l : Launch) (D : va_G) (cI cN cZ : ClassId) (h0 : Nat) : km_V l y_St_init (.code y_St_init b_St_init 1 none :: kmW) rm_St_init D kmC (kmT cI cN cZ) kmF kmM [.ref h0] [(h0, .inr (4, [.int 0, .int 0, .int 0, .null, .int 0, .null]))] (fun (u : Nat → Nat) => u 0 = h0) (fun (u : Nat → Nat) => mstW cI cN cZ u st0) 2 35 := by
  refine km_startV (cc := b_St_init) (maxL := 1) (ret := none) (by decide) rfl (Nat.le_of_ble_eq_true rfl) ?_
  intro p e s m below meth c A ls hE hA hK hP hD hS hl
  obtain ⟨hx, hb, hr, hml, hown, hts0, hlk, hnm⟩ := id hE
  have hts : ∀ w ∈ kmW, w.before ([.ref h0] : List Value).toArray s = true := fun w h => hts0 w (List.mem_cons_of_mem _ h)
  have hl : lv_has ls 1 [(0, .ref h0)] := hl
  refine lv_aload_n hx hb d_St_init_0 rfl (lv_at hl 0 rfl) ?_
  refine W.objInit hx hb hown (hts _ mw_32) (hts _ mw_18) (hts _ mw_19) rfl (by rw [hml]; exact hl.1) rfl d_St_init_1 (Nat.le_of_ble_eq_true rfl) (Nat.le_of_ble_eq_true rfl) ?_
  refine W.eq (g2 := F0 m 4 ls []) rfl ?_
  refine lv_aload_n hx hb d_St_init_4 rfl (lv_at hl 0 rfl) ?_
  refine lv_iconst (v := (0 : Int32)) hx hb d_St_init_5 (by decide) ?_
  refine va_put (D := D) (ci := 4) (v := .int (0 : Int32)) (ty := .int) (C := R_St) (T := F_St) (N := 6) hx hb hts iw_St t_St t_St_ok n_St hown hK.1 hP hD hS 0 rfl rfl 0 (by decide) (hts _ mw_33) (fun _ h => h) rfl (t_St_ok 0 (by decide)) rfl rfl (Nat.le_of_ble_eq_true rfl) d_St_init_6 (fun H locs hP hD hS => ?_)
  have hP : va_P D kmC [(h0, .inr (4, [.int (0 : Int32), .int 0, .int 0, .null, .int 0, .null]))] H := hP
  have hD : va_D A [(h0, .inr (4, [.int (0 : Int32), .int 0, .int 0, .null, .int 0, .null]))] := hD
  refine lv_aload_n hx hb d_St_init_9 rfl (lv_at hl 0 rfl) ?_
  refine lv_bipush (v := (7 : Int32)) hx hb d_St_init_10 (by decide) ?_
  refine va_put (D := D) (ci := 4) (v := .int (7 : Int32)) (ty := .int) (C := R_St) (T := F_St) (N := 6) hx hb hts iw_St t_St t_St_ok n_St hown hK.1 hP hD hS 0 rfl rfl 1 (by decide) (hts _ mw_36) (fun _ h => h) rfl (t_St_ok 1 (by decide)) rfl rfl (Nat.le_of_ble_eq_true rfl) d_St_init_12 (fun H locs hP hD hS => ?_)
  have hP : va_P D kmC [(h0, .inr (4, [.int (0 : Int32), .int (7 : Int32), .int 0, .null, .int 0, .null]))] H := hP
  have hD : va_D A [(h0, .inr (4, [.int (0 : Int32), .int (7 : Int32), .int 0, .null, .int 0, .null]))] := hD
  refine lv_aload_n hx hb d_St_init_15 rfl (lv_at hl 0 rfl) ?_
  refine lv_iconst (v := (0 : Int32)) hx hb d_St_init_16 (by decide) ?_
  refine va_put (D := D) (ci := 4) (v := .int (0 : Int32)) (ty := .int) (C := R_St) (T := F_St) (N := 6) hx hb hts iw_St t_St t_St_ok n_St hown hK.1 hP hD hS 0 rfl rfl 2 (by decide) (hts _ mw_38) (fun _ h => h) rfl (t_St_ok 2 (by decide)) rfl rfl (Nat.le_of_ble_eq_true rfl) d_St_init_17 (fun H locs hP hD hS => ?_)
  have hP : va_P D kmC [(h0, .inr (4, [.int (0 : Int32), .int (7 : Int32), .int (0 : Int32), .null, .int 0, .null]))] H := hP
  have hD : va_D A [(h0, .inr (4, [.int (0 : Int32), .int (7 : Int32), .int (0 : Int32), .null, .int 0, .null]))] := hD
  refine lv_aload_n hx hb d_St_init_20 rfl (lv_at hl 0 rfl) ?_
  refine lv_iconst (v := (4 : Int32)) hx hb d_St_init_21 (by decide) ?_
  refine km_newi hx hb (hts _ mw_59) hK.1 hP hD hS hA 0 rfl (n := (4 : Int32)) (N' := 4) (by decide) (by decide) (by decide) (Nat.le_of_ble_eq_true rfl) (Nat.le_of_ble_eq_true rfl) d_St_init_22 (fun q1 H hP hD hS => ?_)
  have hP : va_P D kmC [(h0, .inr (4, [.int (0 : Int32), .int (7 : Int32), .int (0 : Int32), .null, .int 0, .null])), (q1, .inl (cI, 4, .inl (fun _ => 0)))] H := hP
  have hD : va_D A [(h0, .inr (4, [.int (0 : Int32), .int (7 : Int32), .int (0 : Int32), .null, .int 0, .null])), (q1, .inl (cI, 4, .inl (fun _ => 0)))] := hD
  refine va_putF (D := D) (ci := 4) (v := .ref q1) (ty := .array .int) (C := R_St) (T := F_St) (N := 6) hx hb hts iw_St t_St t_St_ok n_St hown hK.1 hP hD hS 0 rfl rfl 3 (by decide) (hts _ mw_41) (fun _ h => h) rfl hnm rfl (t_St_ok 3 (by decide)) rfl rfl (Nat.le_of_ble_eq_true rfl) d_St_init_24 (fun H locs hP hD hS => ?_)
  have hP : va_P D kmC [(h0, .inr (4, [.int (0 : Int32), .int (7 : Int32), .int (0 : Int32), .ref q1, .int 0, .null])), (q1, .inl (cI, 4, .inl (fun _ => 0)))] H := hP
  have hD : va_D A [(h0, .inr (4, [.int (0 : Int32), .int (7 : Int32), .int (0 : Int32), .ref q1, .int 0, .null])), (q1, .inl (cI, 4, .inl (fun _ => 0)))] := hD
  refine lv_aload_n hx hb d_St_init_27 rfl (lv_at hl 0 rfl) ?_
  refine lv_iconst (v := (0 : Int32)) hx hb d_St_init_28 (by decide) ?_
  refine va_put (D := D) (ci := 4) (v := .int (0 : Int32)) (ty := .int) (C := R_St) (T := F_St) (N := 6) hx hb hts iw_St t_St t_St_ok n_St hown hK.1 hP hD hS 0 rfl rfl 4 (by decide) (hts _ mw_43) (fun _ h => h) rfl (t_St_ok 4 (by decide)) rfl rfl (Nat.le_of_ble_eq_true rfl) d_St_init_29 (fun H locs hP hD hS => ?_)
  have hP : va_P D kmC [(h0, .inr (4, [.int (0 : Int32), .int (7 : Int32), .int (0 : Int32), .ref q1, .int (0 : Int32), .null])), (q1, .inl (cI, 4, .inl (fun _ => 0)))] H := hP
  have hD : va_D A [(h0, .inr (4, [.int (0 : Int32), .int (7 : Int32), .int (0 : Int32), .ref q1, .int (0 : Int32), .null])), (q1, .inl (cI, 4, .inl (fun _ => 0)))] := hD
  refine lv_aload_n hx hb d_St_init_32 rfl (lv_at hl 0 rfl) ?_
  refine lv_bipush (v := (31 : Int32)) hx hb d_St_init_33 (by decide) ?_
  refine km_newi hx hb (hts _ mw_59) hK.1 hP hD hS hA 0 rfl (n := (31 : Int32)) (N' := 31) (by decide) (by decide) (by decide) (Nat.le_of_ble_eq_true rfl) (Nat.le_of_ble_eq_true rfl) d_St_init_35 (fun q2 H hP hD hS => ?_)
  have hP : va_P D kmC [(h0, .inr (4, [.int (0 : Int32), .int (7 : Int32), .int (0 : Int32), .ref q1, .int (0 : Int32), .null])), (q1, .inl (cI, 4, .inl (fun _ => 0))), (q2, .inl (cI, 31, .inl (fun _ => 0)))] H := hP
  have hD : va_D A [(h0, .inr (4, [.int (0 : Int32), .int (7 : Int32), .int (0 : Int32), .ref q1, .int (0 : Int32), .null])), (q1, .inl (cI, 4, .inl (fun _ => 0))), (q2, .inl (cI, 31, .inl (fun _ => 0)))] := hD
  refine va_putF (D := D) (ci := 4) (v := .ref q2) (ty := .array .int) (C := R_St) (T := F_St) (N := 6) hx hb hts iw_St t_St t_St_ok n_St hown hK.1 hP hD hS 0 rfl rfl 5 (by decide) (hts _ mw_44) (fun _ h => h) rfl hnm rfl (t_St_ok 5 (by decide)) rfl rfl (Nat.le_of_ble_eq_true rfl) d_St_init_37 (fun H locs hP hD hS => ?_)
  have hP : va_P D kmC [(h0, .inr (4, [.int (0 : Int32), .int (7 : Int32), .int (0 : Int32), .ref q1, .int (0 : Int32), .ref q2])), (q1, .inl (cI, 4, .inl (fun _ => 0))), (q2, .inl (cI, 31, .inl (fun _ => 0)))] H := hP
  have hD : va_D A [(h0, .inr (4, [.int (0 : Int32), .int (7 : Int32), .int (0 : Int32), .ref q1, .int (0 : Int32), .ref q2])), (q1, .inl (cI, 4, .inl (fun _ => 0))), (q2, .inl (cI, 31, .inl (fun _ => 0)))] := hD
  have hP := hP.sub (ws' := mstW cI cN cZ (km_ad [h0, q1, q2]) st0) [0, 1, 2] rfl
  have hD := hD.sub (ws' := mstW cI cN cZ (km_ad [h0, q1, q2]) st0) [0, 1, 2] (by decide) rfl
  exact W.vret hx hb hr (fun t ht hW => ⟨⟨(km_ad [h0, q1, q2]), rfl, rfl, by rw [ht]; exact hP, hD⟩, hS.F ht⟩) hS.2.2 d_St_init_40
theorem d_Lg_init_0 : decode b_Lg_init 0 = .ok (.aload_n 0, 1) := by decide +kernel
theorem d_Lg_init_1 : decode b_Lg_init 1 = .ok (.invokespecial 3, 3) := by decide +kernel
theorem d_Lg_init_4 : decode b_Lg_init 4 = .ok (.aload_n 0, 1) := by decide +kernel
theorem d_Lg_init_5 : decode b_Lg_init 5 = .ok (.bipush 40, 2) := by decide +kernel
theorem d_Lg_init_7 : decode b_Lg_init 7 = .ok (.newarray .int, 2) := by decide +kernel
theorem d_Lg_init_9 : decode b_Lg_init 9 = .ok (.putfield 9, 3) := by decide +kernel
theorem d_Lg_init_12 : decode b_Lg_init 12 = .ok (.aload_n 0, 1) := by decide +kernel
theorem d_Lg_init_13 : decode b_Lg_init 13 = .ok (.bipush 40, 2) := by decide +kernel
theorem d_Lg_init_15 : decode b_Lg_init 15 = .ok (.newarray .int, 2) := by decide +kernel
theorem d_Lg_init_17 : decode b_Lg_init 17 = .ok (.putfield 15, 3) := by decide +kernel
theorem d_Lg_init_20 : decode b_Lg_init 20 = .ok (.aload_n 0, 1) := by decide +kernel
theorem d_Lg_init_21 : decode b_Lg_init 21 = .ok (.bipush 40, 2) := by decide +kernel
theorem d_Lg_init_23 : decode b_Lg_init 23 = .ok (.newarray .int, 2) := by decide +kernel
theorem d_Lg_init_25 : decode b_Lg_init 25 = .ok (.putfield 18, 3) := by decide +kernel
theorem d_Lg_init_28 : decode b_Lg_init 28 = .ok (.return_, 1) := by decide +kernel
abbrev rm_Lg_init : Room := { frames := 1, cells := 3, slots := 120, locals := 20 }
set_option maxHeartbeats 4000000 in
set_option maxRecDepth 100000 in
theorem c_Lg_init (l : Launch) (D : va_G) (cI cN cZ : ClassId) (h0 : Nat) : km_V l y_Lg_init (.code y_Lg_init b_Lg_init 1 none :: kmW) rm_Lg_init D kmC (kmT cI cN cZ) kmF kmM [.ref h0] [(h0, .inr (1, [.null, .null, .null]))] (fun (u : Nat → Nat) => u 0 = h0) (fun (u : Nat → Nat) => mlgW cI cN cZ u lg0) 3 120 := by
  refine km_startV (cc := b_Lg_init) (maxL := 1) (ret := none) (by decide) rfl (Nat.le_of_ble_eq_true rfl) ?_
  intro p e s m below meth c A ls hE hA hK hP hD hS hl
  obtain ⟨hx, hb, hr, hml, hown, hts0, hlk, hnm⟩ := id hE
  have hts : ∀ w ∈ kmW, w.before ([.ref h0] : List Value).toArray s = true := fun w h => hts0 w (List.mem_cons_of_mem _ h)
  have hl : lv_has ls 1 [(0, .ref h0)] := hl
  refine lv_aload_n hx hb d_Lg_init_0 rfl (lv_at hl 0 rfl) ?_
  refine W.objInit hx hb hown (hts _ mw_65) (hts _ mw_18) (hts _ mw_19) rfl (by rw [hml]; exact hl.1) rfl d_Lg_init_1 (Nat.le_of_ble_eq_true rfl) (Nat.le_of_ble_eq_true rfl) ?_
  refine W.eq (g2 := F0 m 4 ls []) rfl ?_
  refine lv_aload_n hx hb d_Lg_init_4 rfl (lv_at hl 0 rfl) ?_
  refine lv_bipush (v := (40 : Int32)) hx hb d_Lg_init_5 (by decide) ?_
  refine km_newi hx hb (hts _ mw_59) hK.1 hP hD hS hA 0 rfl (n := (40 : Int32)) (N' := 40) (by decide) (by decide) (by decide) (Nat.le_of_ble_eq_true rfl) (Nat.le_of_ble_eq_true rfl) d_Lg_init_7 (fun q1 H hP hD hS => ?_)
  have hP : va_P D kmC [(h0, .inr (1, [.null, .null, .null])), (q1, .inl (cI, 40, .inl (fun _ => 0)))] H := hP
  have hD : va_D A [(h0, .inr (1, [.null, .null, .null])), (q1, .inl (cI, 40, .inl (fun _ => 0)))] := hD
  refine va_putF (D := D) (ci := 1) (v := .ref q1) (ty := .array .int) (C := R_Lg) (T := F_Lg) (N := 3) hx hb hts iw_Lg t_Lg t_Lg_ok n_Lg hown hK.1 hP hD hS 0 rfl rfl 0 (by decide) (hts _ mw_66) (fun _ h => h) rfl hnm rfl (t_Lg_ok 0 (by decide)) rfl rfl (Nat.le_of_ble_eq_true rfl) d_Lg_init_9 (fun H locs hP hD hS => ?_)
  have hP : va_P D kmC [(h0, .inr (1, [.ref q1, .null, .null])), (q1, .inl (cI, 40, .inl (fun _ => 0)))] H := hP
  have hD : va_D A [(h0, .inr (1, [.ref q1, .null, .null])), (q1, .inl (cI, 40, .inl (fun _ => 0)))] := hD
  refine lv_aload_n hx hb d_Lg_init_12 rfl (lv_at hl 0 rfl) ?_
  refine lv_bipush (v := (40 : Int32)) hx hb d_Lg_init_13 (by decide) ?_
  refine km_newi hx hb (hts _ mw_59) hK.1 hP hD hS hA 0 rfl (n := (40 : Int32)) (N' := 40) (by decide) (by decide) (by decide) (Nat.le_of_ble_eq_true rfl) (Nat.le_of_ble_eq_true rfl) d_Lg_init_15 (fun q2 H hP hD hS => ?_)
  have hP : va_P D kmC [(h0, .inr (1, [.ref q1, .null, .null])), (q1, .inl (cI, 40, .inl (fun _ => 0))), (q2, .inl (cI, 40, .inl (fun _ => 0)))] H := hP
  have hD : va_D A [(h0, .inr (1, [.ref q1, .null, .null])), (q1, .inl (cI, 40, .inl (fun _ => 0))), (q2, .inl (cI, 40, .inl (fun _ => 0)))] := hD
  refine va_putF (D := D) (ci := 1) (v := .ref q2) (ty := .array .int) (C := R_Lg) (T := F_Lg) (N := 3) hx hb hts iw_Lg t_Lg t_Lg_ok n_Lg hown hK.1 hP hD hS 0 rfl rfl 1 (by decide) (hts _ mw_68) (fun _ h => h) rfl hnm rfl (t_Lg_ok 1 (by decide)) rfl rfl (Nat.le_of_ble_eq_true rfl) d_Lg_init_17 (fun H locs hP hD hS => ?_)
  have hP : va_P D kmC [(h0, .inr (1, [.ref q1, .ref q2, .null])), (q1, .inl (cI, 40, .inl (fun _ => 0))), (q2, .inl (cI, 40, .inl (fun _ => 0)))] H := hP
  have hD : va_D A [(h0, .inr (1, [.ref q1, .ref q2, .null])), (q1, .inl (cI, 40, .inl (fun _ => 0))), (q2, .inl (cI, 40, .inl (fun _ => 0)))] := hD
  refine lv_aload_n hx hb d_Lg_init_20 rfl (lv_at hl 0 rfl) ?_
  refine lv_bipush (v := (40 : Int32)) hx hb d_Lg_init_21 (by decide) ?_
  refine km_newi hx hb (hts _ mw_59) hK.1 hP hD hS hA 0 rfl (n := (40 : Int32)) (N' := 40) (by decide) (by decide) (by decide) (Nat.le_of_ble_eq_true rfl) (Nat.le_of_ble_eq_true rfl) d_Lg_init_23 (fun q3 H hP hD hS => ?_)
  have hP : va_P D kmC [(h0, .inr (1, [.ref q1, .ref q2, .null])), (q1, .inl (cI, 40, .inl (fun _ => 0))), (q2, .inl (cI, 40, .inl (fun _ => 0))), (q3, .inl (cI, 40, .inl (fun _ => 0)))] H := hP
  have hD : va_D A [(h0, .inr (1, [.ref q1, .ref q2, .null])), (q1, .inl (cI, 40, .inl (fun _ => 0))), (q2, .inl (cI, 40, .inl (fun _ => 0))), (q3, .inl (cI, 40, .inl (fun _ => 0)))] := hD
  refine va_putF (D := D) (ci := 1) (v := .ref q3) (ty := .array .int) (C := R_Lg) (T := F_Lg) (N := 3) hx hb hts iw_Lg t_Lg t_Lg_ok n_Lg hown hK.1 hP hD hS 0 rfl rfl 2 (by decide) (hts _ mw_70) (fun _ h => h) rfl hnm rfl (t_Lg_ok 2 (by decide)) rfl rfl (Nat.le_of_ble_eq_true rfl) d_Lg_init_25 (fun H locs hP hD hS => ?_)
  have hP : va_P D kmC [(h0, .inr (1, [.ref q1, .ref q2, .ref q3])), (q1, .inl (cI, 40, .inl (fun _ => 0))), (q2, .inl (cI, 40, .inl (fun _ => 0))), (q3, .inl (cI, 40, .inl (fun _ => 0)))] H := hP
  have hD : va_D A [(h0, .inr (1, [.ref q1, .ref q2, .ref q3])), (q1, .inl (cI, 40, .inl (fun _ => 0))), (q2, .inl (cI, 40, .inl (fun _ => 0))), (q3, .inl (cI, 40, .inl (fun _ => 0)))] := hD
  have hP := hP.sub (ws' := mlgW cI cN cZ (km_ad [h0, q1, q2, q3]) lg0) [0, 1, 2, 3] rfl
  have hD := hD.sub (ws' := mlgW cI cN cZ (km_ad [h0, q1, q2, q3]) lg0) [0, 1, 2, 3] (by decide) rfl
  exact W.vret hx hb hr (fun t ht hW => ⟨⟨(km_ad [h0, q1, q2, q3]), rfl, rfl, by rw [ht]; exact hP, hD⟩, hS.F ht⟩) hS.2.2 d_Lg_init_28
theorem d_At_init_0 : decode b_At_init 0 = .ok (.aload_n 0, 1) := by decide +kernel
theorem d_At_init_1 : decode b_At_init 1 = .ok (.invokespecial 3, 3) := by decide +kernel
theorem d_At_init_4 : decode b_At_init 4 = .ok (.aload_n 0, 1) := by decide +kernel
theorem d_At_init_5 : decode b_At_init 5 = .ok (.iconst 0, 1) := by decide +kernel
theorem d_At_init_6 : decode b_At_init 6 = .ok (.putfield 9, 3) := by decide +kernel
theorem d_At_init_9 : decode b_At_init 9 = .ok (.aload_n 0, 1) := by decide +kernel
theorem d_At_init_10 : decode b_At_init 10 = .ok (.iconst 0, 1) := by decide +kernel
theorem d_At_init_11 : decode b_At_init 11 = .ok (.putfield 15, 3) := by decide +kernel
theorem d_At_init_14 : decode b_At_init 14 = .ok (.aload_n 0, 1) := by decide +kernel
theorem d_At_init_15 : decode b_At_init 15 = .ok (.iconst 0, 1) := by decide +kernel
theorem d_At_init_16 : decode b_At_init 16 = .ok (.putfield 18, 3) := by decide +kernel
theorem d_At_init_19 : decode b_At_init 19 = .ok (.aload_n 0, 1) := by decide +kernel
theorem d_At_init_20 : decode b_At_init 20 = .ok (.iconst 0, 1) := by decide +kernel
theorem d_At_init_21 : decode b_At_init 21 = .ok (.putfield 21, 3) := by decide +kernel
theorem d_At_init_24 : decode b_At_init 24 = .ok (.aload_n 0, 1) := by decide +kernel
theorem d_At_init_25 : decode b_At_init 25 = .ok (.iconst 0, 1) := by decide +kernel
theorem d_At_init_26 : decode b_At_init 26 = .ok (.putfield 24, 3) := by decide +kernel
theorem d_At_init_29 : decode b_At_init 29 = .ok (.aload_n 0, 1) := by decide +kernel
theorem d_At_init_30 : decode b_At_init 30 = .ok (.iconst 0, 1) := by decide +kernel
theorem d_At_init_31 : decode b_At_init 31 = .ok (.putfield 27, 3) := by decide +kernel
theorem d_At_init_34 : decode b_At_init 34 = .ok (.aload_n 0, 1) := by decide +kernel
theorem d_At_init_35 : decode b_At_init 35 = .ok (.iconst (-1), 1) := by decide +kernel
theorem d_At_init_36 : decode b_At_init 36 = .ok (.putfield 30, 3) := by decide +kernel
theorem d_At_init_39 : decode b_At_init 39 = .ok (.return_, 1) := by decide +kernel
abbrev rm_At_init : Room := { frames := 1, cells := 0, slots := 0, locals := 20 }
set_option maxHeartbeats 4000000 in
set_option maxRecDepth 100000 in
theorem c_At_init (l : Launch) (D : va_G) (cI cN cZ : ClassId) (h0 : Nat) : km_V l y_At_init (.code y_At_init b_At_init 1 none :: kmW) rm_At_init D kmC (kmT cI cN cZ) kmF kmM [.ref h0] [(h0, .inr (0, [.int 0, .int 0, .int 0, .int 0, .int 0, .int 0, .int 0]))] (fun (u : Nat → Nat) => u 0 = h0) (fun (u : Nat → Nat) => matW cI cN cZ u at0) 0 0 := by
  refine km_startV (cc := b_At_init) (maxL := 1) (ret := none) (by decide) rfl (Nat.le_of_ble_eq_true rfl) ?_
  intro p e s m below meth c A ls hE hA hK hP hD hS hl
  obtain ⟨hx, hb, hr, hml, hown, hts0, hlk, hnm⟩ := id hE
  have hts : ∀ w ∈ kmW, w.before ([.ref h0] : List Value).toArray s = true := fun w h => hts0 w (List.mem_cons_of_mem _ h)
  have hl : lv_has ls 1 [(0, .ref h0)] := hl
  refine lv_aload_n hx hb d_At_init_0 rfl (lv_at hl 0 rfl) ?_
  refine W.objInit hx hb hown (hts _ mw_84) (hts _ mw_18) (hts _ mw_19) rfl (by rw [hml]; exact hl.1) rfl d_At_init_1 (Nat.le_of_ble_eq_true rfl) (Nat.le_of_ble_eq_true rfl) ?_
  refine W.eq (g2 := F0 m 4 ls []) rfl ?_
  refine lv_aload_n hx hb d_At_init_4 rfl (lv_at hl 0 rfl) ?_
  refine lv_iconst (v := (0 : Int32)) hx hb d_At_init_5 (by decide) ?_
  refine va_put (D := D) (ci := 0) (v := .int (0 : Int32)) (ty := .int) (C := R_At) (T := F_At) (N := 7) hx hb hts iw_At t_At t_At_ok n_At hown hK.1 hP hD hS 0 rfl rfl 0 (by decide) (hts _ mw_85) (fun _ h => h) rfl (t_At_ok 0 (by decide)) rfl rfl (Nat.le_of_ble_eq_true rfl) d_At_init_6 (fun H locs hP hD hS => ?_)
  have hP : va_P D kmC [(h0, .inr (0, [.int (0 : Int32), .int 0, .int 0, .int 0, .int 0, .int 0, .int 0]))] H := hP
  have hD : va_D A [(h0, .inr (0, [.int (0 : Int32), .int 0, .int 0, .int 0, .int 0, .int 0, .int 0]))] := hD
  refine lv_aload_n hx hb d_At_init_9 rfl (lv_at hl 0 rfl) ?_
  refine lv_iconst (v := (0 : Int32)) hx hb d_At_init_10 (by decide) ?_
  refine va_put (D := D) (ci := 0) (v := .int (0 : Int32)) (ty := .int) (C := R_At) (T := F_At) (N := 7) hx hb hts iw_At t_At t_At_ok n_At hown hK.1 hP hD hS 0 rfl rfl 1 (by decide) (hts _ mw_88) (fun _ h => h) rfl (t_At_ok 1 (by decide)) rfl rfl (Nat.le_of_ble_eq_true rfl) d_At_init_11 (fun H locs hP hD hS => ?_)
  have hP : va_P D kmC [(h0, .inr (0, [.int (0 : Int32), .int (0 : Int32), .int 0, .int 0, .int 0, .int 0, .int 0]))] H := hP
  have hD : va_D A [(h0, .inr (0, [.int (0 : Int32), .int (0 : Int32), .int 0, .int 0, .int 0, .int 0, .int 0]))] := hD
  refine lv_aload_n hx hb d_At_init_14 rfl (lv_at hl 0 rfl) ?_
  refine lv_iconst (v := (0 : Int32)) hx hb d_At_init_15 (by decide) ?_
  refine va_put (D := D) (ci := 0) (v := .int (0 : Int32)) (ty := .int) (C := R_At) (T := F_At) (N := 7) hx hb hts iw_At t_At t_At_ok n_At hown hK.1 hP hD hS 0 rfl rfl 2 (by decide) (hts _ mw_90) (fun _ h => h) rfl (t_At_ok 2 (by decide)) rfl rfl (Nat.le_of_ble_eq_true rfl) d_At_init_16 (fun H locs hP hD hS => ?_)
  have hP : va_P D kmC [(h0, .inr (0, [.int (0 : Int32), .int (0 : Int32), .int (0 : Int32), .int 0, .int 0, .int 0, .int 0]))] H := hP
  have hD : va_D A [(h0, .inr (0, [.int (0 : Int32), .int (0 : Int32), .int (0 : Int32), .int 0, .int 0, .int 0, .int 0]))] := hD
  refine lv_aload_n hx hb d_At_init_19 rfl (lv_at hl 0 rfl) ?_
  refine lv_iconst (v := (0 : Int32)) hx hb d_At_init_20 (by decide) ?_
  refine va_put (D := D) (ci := 0) (v := .int (0 : Int32)) (ty := .int) (C := R_At) (T := F_At) (N := 7) hx hb hts iw_At t_At t_At_ok n_At hown hK.1 hP hD hS 0 rfl rfl 3 (by decide) (hts _ mw_92) (fun _ h => h) rfl (t_At_ok 3 (by decide)) rfl rfl (Nat.le_of_ble_eq_true rfl) d_At_init_21 (fun H locs hP hD hS => ?_)
  have hP : va_P D kmC [(h0, .inr (0, [.int (0 : Int32), .int (0 : Int32), .int (0 : Int32), .int (0 : Int32), .int 0, .int 0, .int 0]))] H := hP
  have hD : va_D A [(h0, .inr (0, [.int (0 : Int32), .int (0 : Int32), .int (0 : Int32), .int (0 : Int32), .int 0, .int 0, .int 0]))] := hD
  refine lv_aload_n hx hb d_At_init_24 rfl (lv_at hl 0 rfl) ?_
  refine lv_iconst (v := (0 : Int32)) hx hb d_At_init_25 (by decide) ?_
  refine va_put (D := D) (ci := 0) (v := .int (0 : Int32)) (ty := .int) (C := R_At) (T := F_At) (N := 7) hx hb hts iw_At t_At t_At_ok n_At hown hK.1 hP hD hS 0 rfl rfl 4 (by decide) (hts _ mw_95) (fun _ h => h) rfl (t_At_ok 4 (by decide)) rfl rfl (Nat.le_of_ble_eq_true rfl) d_At_init_26 (fun H locs hP hD hS => ?_)
  have hP : va_P D kmC [(h0, .inr (0, [.int (0 : Int32), .int (0 : Int32), .int (0 : Int32), .int (0 : Int32), .int (0 : Int32), .int 0, .int 0]))] H := hP
  have hD : va_D A [(h0, .inr (0, [.int (0 : Int32), .int (0 : Int32), .int (0 : Int32), .int (0 : Int32), .int (0 : Int32), .int 0, .int 0]))] := hD
  refine lv_aload_n hx hb d_At_init_29 rfl (lv_at hl 0 rfl) ?_
  refine lv_iconst (v := (0 : Int32)) hx hb d_At_init_30 (by decide) ?_
  refine va_put (D := D) (ci := 0) (v := .int (0 : Int32)) (ty := .int) (C := R_At) (T := F_At) (N := 7) hx hb hts iw_At t_At t_At_ok n_At hown hK.1 hP hD hS 0 rfl rfl 5 (by decide) (hts _ mw_97) (fun _ h => h) rfl (t_At_ok 5 (by decide)) rfl rfl (Nat.le_of_ble_eq_true rfl) d_At_init_31 (fun H locs hP hD hS => ?_)
  have hP : va_P D kmC [(h0, .inr (0, [.int (0 : Int32), .int (0 : Int32), .int (0 : Int32), .int (0 : Int32), .int (0 : Int32), .int (0 : Int32), .int 0]))] H := hP
  have hD : va_D A [(h0, .inr (0, [.int (0 : Int32), .int (0 : Int32), .int (0 : Int32), .int (0 : Int32), .int (0 : Int32), .int (0 : Int32), .int 0]))] := hD
  refine lv_aload_n hx hb d_At_init_34 rfl (lv_at hl 0 rfl) ?_
  refine lv_iconst (v := (-1 : Int32)) hx hb d_At_init_35 (by decide) ?_
  refine va_put (D := D) (ci := 0) (v := .int (-1 : Int32)) (ty := .int) (C := R_At) (T := F_At) (N := 7) hx hb hts iw_At t_At t_At_ok n_At hown hK.1 hP hD hS 0 rfl rfl 6 (by decide) (hts _ mw_99) (fun _ h => h) rfl (t_At_ok 6 (by decide)) rfl rfl (Nat.le_of_ble_eq_true rfl) d_At_init_36 (fun H locs hP hD hS => ?_)
  have hP : va_P D kmC [(h0, .inr (0, [.int (0 : Int32), .int (0 : Int32), .int (0 : Int32), .int (0 : Int32), .int (0 : Int32), .int (0 : Int32), .int (-1 : Int32)]))] H := hP
  have hD : va_D A [(h0, .inr (0, [.int (0 : Int32), .int (0 : Int32), .int (0 : Int32), .int (0 : Int32), .int (0 : Int32), .int (0 : Int32), .int (-1 : Int32)]))] := hD
  have hP := hP.sub (ws' := matW cI cN cZ (km_ad [h0]) at0) [0] rfl
  have hD := hD.sub (ws' := matW cI cN cZ (km_ad [h0]) at0) [0] (by decide) rfl
  exact W.vret hx hb hr (fun t ht hW => ⟨⟨(km_ad [h0]), rfl, rfl, by rw [ht]; exact hP, hD⟩, hS.F ht⟩) hS.2.2 d_At_init_39
theorem d_Bk_init_0 : decode b_Bk_init 0 = .ok (.aload_n 0, 1) := by decide +kernel
theorem d_Bk_init_1 : decode b_Bk_init 1 = .ok (.invokespecial 3, 3) := by decide +kernel
theorem d_Bk_init_4 : decode b_Bk_init 4 = .ok (.aload_n 0, 1) := by decide +kernel
theorem d_Bk_init_5 : decode b_Bk_init 5 = .ok (.bipush 31, 2) := by decide +kernel
theorem d_Bk_init_7 : decode b_Bk_init 7 = .ok (.newarray .int, 2) := by decide +kernel
theorem d_Bk_init_9 : decode b_Bk_init 9 = .ok (.putfield 9, 3) := by decide +kernel
theorem d_Bk_init_12 : decode b_Bk_init 12 = .ok (.aload_n 0, 1) := by decide +kernel
theorem d_Bk_init_13 : decode b_Bk_init 13 = .ok (.bipush 31, 2) := by decide +kernel
theorem d_Bk_init_15 : decode b_Bk_init 15 = .ok (.newarray .int, 2) := by decide +kernel
theorem d_Bk_init_17 : decode b_Bk_init 17 = .ok (.putfield 15, 3) := by decide +kernel
theorem d_Bk_init_20 : decode b_Bk_init 20 = .ok (.aload_n 0, 1) := by decide +kernel
theorem d_Bk_init_21 : decode b_Bk_init 21 = .ok (.bipush 31, 2) := by decide +kernel
theorem d_Bk_init_23 : decode b_Bk_init 23 = .ok (.newarray .int, 2) := by decide +kernel
theorem d_Bk_init_25 : decode b_Bk_init 25 = .ok (.putfield 18, 3) := by decide +kernel
theorem d_Bk_init_28 : decode b_Bk_init 28 = .ok (.aload_n 0, 1) := by decide +kernel
theorem d_Bk_init_29 : decode b_Bk_init 29 = .ok (.iconst 0, 1) := by decide +kernel
theorem d_Bk_init_30 : decode b_Bk_init 30 = .ok (.putfield 21, 3) := by decide +kernel
theorem d_Bk_init_33 : decode b_Bk_init 33 = .ok (.return_, 1) := by decide +kernel
abbrev rm_Bk_init : Room := { frames := 1, cells := 3, slots := 93, locals := 20 }
set_option maxHeartbeats 4000000 in
set_option maxRecDepth 100000 in
theorem c_Bk_init (l : Launch) (D : va_G) (cI cN cZ : ClassId) (h0 : Nat) : km_V l y_Bk_init (.code y_Bk_init b_Bk_init 1 none :: kmW) rm_Bk_init D kmC (kmT cI cN cZ) kmF kmM [.ref h0] [(h0, .inr (3, [.null, .null, .null, .int 0]))] (fun (u : Nat → Nat) => u 0 = h0) (fun (u : Nat → Nat) => mbkW cI cN cZ u bk0) 3 93 := by
  refine km_startV (cc := b_Bk_init) (maxL := 1) (ret := none) (by decide) rfl (Nat.le_of_ble_eq_true rfl) ?_
  intro p e s m below meth c A ls hE hA hK hP hD hS hl
  obtain ⟨hx, hb, hr, hml, hown, hts0, hlk, hnm⟩ := id hE
  have hts : ∀ w ∈ kmW, w.before ([.ref h0] : List Value).toArray s = true := fun w h => hts0 w (List.mem_cons_of_mem _ h)
  have hl : lv_has ls 1 [(0, .ref h0)] := hl
  refine lv_aload_n hx hb d_Bk_init_0 rfl (lv_at hl 0 rfl) ?_
  refine W.objInit hx hb hown (hts _ mw_161) (hts _ mw_18) (hts _ mw_19) rfl (by rw [hml]; exact hl.1) rfl d_Bk_init_1 (Nat.le_of_ble_eq_true rfl) (Nat.le_of_ble_eq_true rfl) ?_
  refine W.eq (g2 := F0 m 4 ls []) rfl ?_
  refine lv_aload_n hx hb d_Bk_init_4 rfl (lv_at hl 0 rfl) ?_
  refine lv_bipush (v := (31 : Int32)) hx hb d_Bk_init_5 (by decide) ?_
  refine km_newi hx hb (hts _ mw_59) hK.1 hP hD hS hA 0 rfl (n := (31 : Int32)) (N' := 31) (by decide) (by decide) (by decide) (Nat.le_of_ble_eq_true rfl) (Nat.le_of_ble_eq_true rfl) d_Bk_init_7 (fun q1 H hP hD hS => ?_)
  have hP : va_P D kmC [(h0, .inr (3, [.null, .null, .null, .int 0])), (q1, .inl (cI, 31, .inl (fun _ => 0)))] H := hP
  have hD : va_D A [(h0, .inr (3, [.null, .null, .null, .int 0])), (q1, .inl (cI, 31, .inl (fun _ => 0)))] := hD
  refine va_putF (D := D) (ci := 3) (v := .ref q1) (ty := .array .int) (C := R_Bk) (T := F_Bk) (N := 4) hx hb hts iw_Bk t_Bk t_Bk_ok n_Bk hown hK.1 hP hD hS 0 rfl rfl 0 (by decide) (hts _ mw_162) (fun _ h => h) rfl hnm rfl (t_Bk_ok 0 (by decide)) rfl rfl (Nat.le_of_ble_eq_true rfl) d_Bk_init_9 (fun H locs hP hD hS => ?_)
  have hP : va_P D kmC [(h0, .inr (3, [.ref q1, .null, .null, .int 0])), (q1, .inl (cI, 31, .inl (fun _ => 0)))] H := hP
  have hD : va_D A [(h0, .inr (3, [.ref q1, .null, .null, .int 0])), (q1, .inl (cI, 31, .inl (fun _ => 0)))] := hD
  refine lv_aload_n hx hb d_Bk_init_12 rfl (lv_at hl 0 rfl) ?_
  refine lv_bipush (v := (31 : Int32)) hx hb d_Bk_init_13 (by decide) ?_
  refine km_newi hx hb (hts _ mw_59) hK.1 hP hD hS hA 0 rfl (n := (31 : Int32)) (N' := 31) (by decide) (by decide) (by decide) (Nat.le_of_ble_eq_true rfl) (Nat.le_of_ble_eq_true rfl) d_Bk_init_15 (fun q2 H hP hD hS => ?_)
  have hP : va_P D kmC [(h0, .inr (3, [.ref q1, .null, .null, .int 0])), (q1, .inl (cI, 31, .inl (fun _ => 0))), (q2, .inl (cI, 31, .inl (fun _ => 0)))] H := hP
  have hD : va_D A [(h0, .inr (3, [.ref q1, .null, .null, .int 0])), (q1, .inl (cI, 31, .inl (fun _ => 0))), (q2, .inl (cI, 31, .inl (fun _ => 0)))] := hD
  refine va_putF (D := D) (ci := 3) (v := .ref q2) (ty := .array .int) (C := R_Bk) (T := F_Bk) (N := 4) hx hb hts iw_Bk t_Bk t_Bk_ok n_Bk hown hK.1 hP hD hS 0 rfl rfl 1 (by decide) (hts _ mw_164) (fun _ h => h) rfl hnm rfl (t_Bk_ok 1 (by decide)) rfl rfl (Nat.le_of_ble_eq_true rfl) d_Bk_init_17 (fun H locs hP hD hS => ?_)
  have hP : va_P D kmC [(h0, .inr (3, [.ref q1, .ref q2, .null, .int 0])), (q1, .inl (cI, 31, .inl (fun _ => 0))), (q2, .inl (cI, 31, .inl (fun _ => 0)))] H := hP
  have hD : va_D A [(h0, .inr (3, [.ref q1, .ref q2, .null, .int 0])), (q1, .inl (cI, 31, .inl (fun _ => 0))), (q2, .inl (cI, 31, .inl (fun _ => 0)))] := hD
  refine lv_aload_n hx hb d_Bk_init_20 rfl (lv_at hl 0 rfl) ?_
  refine lv_bipush (v := (31 : Int32)) hx hb d_Bk_init_21 (by decide) ?_
  refine km_newi hx hb (hts _ mw_59) hK.1 hP hD hS hA 0 rfl (n := (31 : Int32)) (N' := 31) (by decide) (by decide) (by decide) (Nat.le_of_ble_eq_true rfl) (Nat.le_of_ble_eq_true rfl) d_Bk_init_23 (fun q3 H hP hD hS => ?_)
  have hP : va_P D kmC [(h0, .inr (3, [.ref q1, .ref q2, .null, .int 0])), (q1, .inl (cI, 31, .inl (fun _ => 0))), (q2, .inl (cI, 31, .inl (fun _ => 0))), (q3, .inl (cI, 31, .inl (fun _ => 0)))] H := hP
  have hD : va_D A [(h0, .inr (3, [.ref q1, .ref q2, .null, .int 0])), (q1, .inl (cI, 31, .inl (fun _ => 0))), (q2, .inl (cI, 31, .inl (fun _ => 0))), (q3, .inl (cI, 31, .inl (fun _ => 0)))] := hD
  refine va_putF (D := D) (ci := 3) (v := .ref q3) (ty := .array .int) (C := R_Bk) (T := F_Bk) (N := 4) hx hb hts iw_Bk t_Bk t_Bk_ok n_Bk hown hK.1 hP hD hS 0 rfl rfl 2 (by decide) (hts _ mw_166) (fun _ h => h) rfl hnm rfl (t_Bk_ok 2 (by decide)) rfl rfl (Nat.le_of_ble_eq_true rfl) d_Bk_init_25 (fun H locs hP hD hS => ?_)
  have hP : va_P D kmC [(h0, .inr (3, [.ref q1, .ref q2, .ref q3, .int 0])), (q1, .inl (cI, 31, .inl (fun _ => 0))), (q2, .inl (cI, 31, .inl (fun _ => 0))), (q3, .inl (cI, 31, .inl (fun _ => 0)))] H := hP
  have hD : va_D A [(h0, .inr (3, [.ref q1, .ref q2, .ref q3, .int 0])), (q1, .inl (cI, 31, .inl (fun _ => 0))), (q2, .inl (cI, 31, .inl (fun _ => 0))), (q3, .inl (cI, 31, .inl (fun _ => 0)))] := hD
  refine lv_aload_n hx hb d_Bk_init_28 rfl (lv_at hl 0 rfl) ?_
  refine lv_iconst (v := (0 : Int32)) hx hb d_Bk_init_29 (by decide) ?_
  refine va_put (D := D) (ci := 3) (v := .int (0 : Int32)) (ty := .int) (C := R_Bk) (T := F_Bk) (N := 4) hx hb hts iw_Bk t_Bk t_Bk_ok n_Bk hown hK.1 hP hD hS 0 rfl rfl 3 (by decide) (hts _ mw_168) (fun _ h => h) rfl (t_Bk_ok 3 (by decide)) rfl rfl (Nat.le_of_ble_eq_true rfl) d_Bk_init_30 (fun H locs hP hD hS => ?_)
  have hP : va_P D kmC [(h0, .inr (3, [.ref q1, .ref q2, .ref q3, .int (0 : Int32)])), (q1, .inl (cI, 31, .inl (fun _ => 0))), (q2, .inl (cI, 31, .inl (fun _ => 0))), (q3, .inl (cI, 31, .inl (fun _ => 0)))] H := hP
  have hD : va_D A [(h0, .inr (3, [.ref q1, .ref q2, .ref q3, .int (0 : Int32)])), (q1, .inl (cI, 31, .inl (fun _ => 0))), (q2, .inl (cI, 31, .inl (fun _ => 0))), (q3, .inl (cI, 31, .inl (fun _ => 0)))] := hD
  have hP := hP.sub (ws' := mbkW cI cN cZ (km_ad [h0, q1, q2, q3]) bk0) [0, 1, 2, 3] rfl
  have hD := hD.sub (ws' := mbkW cI cN cZ (km_ad [h0, q1, q2, q3]) bk0) [0, 1, 2, 3] (by decide) rfl
  exact W.vret hx hb hr (fun t ht hW => ⟨⟨(km_ad [h0, q1, q2, q3]), rfl, rfl, by rw [ht]; exact hP, hD⟩, hS.F ht⟩) hS.2.2 d_Bk_init_33
theorem d_Nd_init_0 : decode b_Nd_init 0 = .ok (.aload_n 0, 1) := by decide +kernel
theorem d_Nd_init_1 : decode b_Nd_init 1 = .ok (.invokespecial 3, 3) := by decide +kernel
theorem d_Nd_init_4 : decode b_Nd_init 4 = .ok (.aload_n 0, 1) := by decide +kernel
theorem d_Nd_init_5 : decode b_Nd_init 5 = .ok (.iconst 1, 1) := by decide +kernel
theorem d_Nd_init_6 : decode b_Nd_init 6 = .ok (.putfield 9, 3) := by decide +kernel
theorem d_Nd_init_9 : decode b_Nd_init 9 = .ok (.aload_n 0, 1) := by decide +kernel
theorem d_Nd_init_10 : decode b_Nd_init 10 = .ok (.new 15, 3) := by decide +kernel
theorem d_Nd_init_13 : decode b_Nd_init 13 = .ok (.dup, 1) := by decide +kernel
theorem d_Nd_init_14 : decode b_Nd_init 14 = .ok (.invokespecial 17, 3) := by decide +kernel
theorem d_Nd_init_17 : decode b_Nd_init 17 = .ok (.putfield 18, 3) := by decide +kernel
theorem d_Nd_init_20 : decode b_Nd_init 20 = .ok (.aload_n 0, 1) := by decide +kernel
theorem d_Nd_init_21 : decode b_Nd_init 21 = .ok (.new 22, 3) := by decide +kernel
theorem d_Nd_init_24 : decode b_Nd_init 24 = .ok (.dup, 1) := by decide +kernel
theorem d_Nd_init_25 : decode b_Nd_init 25 = .ok (.invokespecial 24, 3) := by decide +kernel
theorem d_Nd_init_28 : decode b_Nd_init 28 = .ok (.putfield 25, 3) := by decide +kernel
theorem d_Nd_init_31 : decode b_Nd_init 31 = .ok (.aload_n 0, 1) := by decide +kernel
theorem d_Nd_init_32 : decode b_Nd_init 32 = .ok (.iconst 0, 1) := by decide +kernel
theorem d_Nd_init_33 : decode b_Nd_init 33 = .ok (.putfield 29, 3) := by decide +kernel
theorem d_Nd_init_36 : decode b_Nd_init 36 = .ok (.aload_n 0, 1) := by decide +kernel
theorem d_Nd_init_37 : decode b_Nd_init 37 = .ok (.iconst 0, 1) := by decide +kernel
theorem d_Nd_init_38 : decode b_Nd_init 38 = .ok (.putfield 33, 3) := by decide +kernel
theorem d_Nd_init_41 : decode b_Nd_init 41 = .ok (.aload_n 0, 1) := by decide +kernel
theorem d_Nd_init_42 : decode b_Nd_init 42 = .ok (.bipush 9, 2) := by decide +kernel
theorem d_Nd_init_44 : decode b_Nd_init 44 = .ok (.newarray .int, 2) := by decide +kernel
theorem d_Nd_init_46 : decode b_Nd_init 46 = .ok (.putfield 36, 3) := by decide +kernel
theorem d_Nd_init_49 : decode b_Nd_init 49 = .ok (.aload_n 0, 1) := by decide +kernel
theorem d_Nd_init_50 : decode b_Nd_init 50 = .ok (.iconst 0, 1) := by decide +kernel
theorem d_Nd_init_51 : decode b_Nd_init 51 = .ok (.putfield 40, 3) := by decide +kernel
theorem d_Nd_init_54 : decode b_Nd_init 54 = .ok (.aload_n 0, 1) := by decide +kernel
theorem d_Nd_init_55 : decode b_Nd_init 55 = .ok (.new 43, 3) := by decide +kernel
theorem d_Nd_init_58 : decode b_Nd_init 58 = .ok (.dup, 1) := by decide +kernel
theorem d_Nd_init_59 : decode b_Nd_init 59 = .ok (.invokespecial 45, 3) := by decide +kernel
theorem d_Nd_init_62 : decode b_Nd_init 62 = .ok (.putfield 46, 3) := by decide +kernel
theorem d_Nd_init_65 : decode b_Nd_init 65 = .ok (.aload_n 0, 1) := by decide +kernel
theorem d_Nd_init_66 : decode b_Nd_init 66 = .ok (.iload_n 1, 1) := by decide +kernel
theorem d_Nd_init_67 : decode b_Nd_init 67 = .ok (.putfield 50, 3) := by decide +kernel
theorem d_Nd_init_70 : decode b_Nd_init 70 = .ok (.aload_n 0, 1) := by decide +kernel
theorem d_Nd_init_71 : decode b_Nd_init 71 = .ok (.getfield 36, 3) := by decide +kernel
theorem d_Nd_init_74 : decode b_Nd_init 74 = .ok (.iconst (-1), 1) := by decide +kernel
theorem d_Nd_init_75 : decode b_Nd_init 75 = .ok (.invokestatic 53, 3) := by decide +kernel
theorem d_Nd_init_78 : decode b_Nd_init 78 = .ok (.return_, 1) := by decide +kernel
abbrev rm_Nd_init : Room := { frames := 2, cells := 9, slots := 180, locals := 40 }
set_option maxHeartbeats 4000000 in
set_option maxRecDepth 100000 in
theorem c_Nd_init (l : Launch) (D : va_G) (cI cN cZ : ClassId) (h0 : Nat) (x1 : Int32) : km_V l y_Nd_init (.code y_Nd_init b_Nd_init 2 none :: kmW) rm_Nd_init D kmC (kmT cI cN cZ) kmF kmM [.ref h0, .int x1] [(h0, .inr (2, [.int 0, .int 0, .null, .null, .int 0, .int 0, .null, .int 0, .null]))] (fun (u : Nat → Nat) => u 0 = h0) (fun (u : Nat → Nat) => mndW cI cN cZ u (nd0 x1)) 9 180 := by
  refine km_startV (cc := b_Nd_init) (maxL := 2) (ret := none) (by decide) rfl (Nat.le_of_ble_eq_true rfl) ?_
  intro p e s m below meth c A ls hE hA hK hP hD hS hl
  obtain ⟨hx, hb, hr, hml, hown, hts0, hlk, hnm⟩ := id hE
  have hts : ∀ w ∈ kmW, w.before ([.ref h0, .int x1] : List Value).toArray s = true := fun w h => hts0 w (List.mem_cons_of_mem _ h)
  have hl : lv_has ls 2 [(0, .ref h0), (1, .int x1)] := hl
  refine lv_aload_n hx hb d_Nd_init_0 rfl (lv_at hl 0 rfl) ?_
  refine W.objInit hx hb hown (hts _ mw_26) (hts _ mw_18) (hts _ mw_19) rfl (by rw [hml]; exact hl.1) rfl d_Nd_init_1 (Nat.le_of_ble_eq_true rfl) (Nat.le_of_ble_eq_true rfl) ?_
  refine W.eq (g2 := F0 m 4 ls []) rfl ?_
  refine lv_aload_n hx hb d_Nd_init_4 rfl (lv_at hl 0 rfl) ?_
  refine lv_iconst (v := (1 : Int32)) hx hb d_Nd_init_5 (by decide) ?_
  refine va_put (D := D) (ci := 2) (v := .int (1 : Int32)) (ty := .boolean) (C := R_Nd) (T := F_Nd) (N := 9) hx hb hts iw_Nd t_Nd t_Nd_ok n_Nd hown hK.1 hP hD hS 0 rfl rfl 1 (by decide) (hts _ mw_121) (fun _ h => h) rfl (t_Nd_ok 1 (by decide)) rfl rfl (Nat.le_of_ble_eq_true rfl) d_Nd_init_6 (fun H locs hP hD hS => ?_)
  have hP : va_P D kmC [(h0, .inr (2, [.int 0, .int (1 : Int32), .null, .null, .int 0, .int 0, .null, .int 0, .null]))] H := hP
  have hD : va_D A [(h0, .inr (2, [.int 0, .int (1 : Int32), .null, .null, .int 0, .int 0, .null, .int 0, .null]))] := hD
  refine lv_aload_n hx hb d_Nd_init_9 rfl (lv_at hl 0 rfl) ?_
  refine va_new (ci := 4) (fs := [.int 0, .int 0, .int 0, .null, .int 0, .null]) (C := R_St) (T := F_St) (N := 6) hx hb hts iw_St t_St t_St_ok hown (hts _ mw_27) (hts _ mw_28) (hts _ mw_3) hK.1 hP hD hS hA rfl (fun j hj => by rcases (show j = 0 ∨ j = 1 ∨ j = 2 ∨ j = 3 ∨ j = 4 ∨ j = 5 by omega) with rfl | rfl | rfl | rfl | rfl | rfl <;> rfl) (Nat.le_of_ble_eq_true rfl) (Nat.le_of_ble_eq_true rfl) d_Nd_init_10 (fun q1 H hP hD hS => ?_)
  have hP : va_P D kmC [(h0, .inr (2, [.int 0, .int (1 : Int32), .null, .null, .int 0, .int 0, .null, .int 0, .null])), (q1, .inr (4, [.int 0, .int 0, .int 0, .null, .int 0, .null]))] H := hP
  have hD : va_D A [(h0, .inr (2, [.int 0, .int (1 : Int32), .null, .null, .int 0, .int 0, .null, .int 0, .null])), (q1, .inr (4, [.int 0, .int 0, .int 0, .null, .int 0, .null]))] := hD
  refine lv_dup hx hb d_Nd_init_13 rfl ?_
  refine km_cv (wr := [(h0, .inr (2, [.int 0, .int (1 : Int32), .null, .null, .int 0, .int 0, .null, .int 0, .null]))]) (km_rIN (n := 0) hE kmG (c_St_init l D cI cN cZ q1) mw_31 (km_nM hK 1 rfl) mw_30 mw_3 rfl (by decide) ⟨rfl, rfl, ⟨by decide, by decide⟩, by decide, by decide⟩ hK (km_cut hP [1] rfl) (hD.sub [1] (by decide) rfl) rfl hl.1 rfl (Nat.le_of_ble_eq_true rfl) d_Nd_init_14) hP hD hS hA [1] [0] rfl rfl (by decide) (by decide) (fun u2 H locs hu hP2 hD2 hS2 => ?_)
  subst hu
  have hP : va_P D kmC [(h0, .inr (2, [.int 0, .int (1 : Int32), .null, .null, .int 0, .int 0, .null, .int 0, .null])), (u2 0, .inr (4, [.int (mst_configuration st0), .int (mst_membership st0), .int (mst_executed st0), .ref (u2 1), .int (mst_doneBits st0), .ref (u2 2)])), (u2 1, .inl (cI, 4, .inl (mst_values st0))), (u2 2, .inl (cI, 31, .inl (mst_answers st0)))] H := hP2
  have hD : va_D A [(h0, .inr (2, [.int 0, .int (1 : Int32), .null, .null, .int 0, .int 0, .null, .int 0, .null])), (u2 0, .inr (4, [.int (mst_configuration st0), .int (mst_membership st0), .int (mst_executed st0), .ref (u2 1), .int (mst_doneBits st0), .ref (u2 2)])), (u2 1, .inl (cI, 4, .inl (mst_values st0))), (u2 2, .inl (cI, 31, .inl (mst_answers st0)))] := hD2
  have hS := hS2
  refine va_putF (D := D) (ci := 2) (v := .ref (u2 0)) (ty := .object "SealedChain$State") (C := R_Nd) (T := F_Nd) (N := 9) hx hb hts iw_Nd t_Nd t_Nd_ok n_Nd hown hK.1 hP hD hS 0 rfl rfl 2 (by decide) (hts _ mw_123) (fun _ h => h) rfl hnm rfl (t_Nd_ok 2 (by decide)) rfl rfl (Nat.le_of_ble_eq_true rfl) d_Nd_init_17 (fun H locs hP hD hS => ?_)
  have hP : va_P D kmC [(h0, .inr (2, [.int 0, .int (1 : Int32), .ref (u2 0), .null, .int 0, .int 0, .null, .int 0, .null])), (u2 0, .inr (4, [.int (mst_configuration st0), .int (mst_membership st0), .int (mst_executed st0), .ref (u2 1), .int (mst_doneBits st0), .ref (u2 2)])), (u2 1, .inl (cI, 4, .inl (mst_values st0))), (u2 2, .inl (cI, 31, .inl (mst_answers st0)))] H := hP
  have hD : va_D A [(h0, .inr (2, [.int 0, .int (1 : Int32), .ref (u2 0), .null, .int 0, .int 0, .null, .int 0, .null])), (u2 0, .inr (4, [.int (mst_configuration st0), .int (mst_membership st0), .int (mst_executed st0), .ref (u2 1), .int (mst_doneBits st0), .ref (u2 2)])), (u2 1, .inl (cI, 4, .inl (mst_values st0))), (u2 2, .inl (cI, 31, .inl (mst_answers st0)))] := hD
  refine lv_aload_n hx hb d_Nd_init_20 rfl (lv_at hl 0 rfl) ?_
  refine va_new (ci := 1) (fs := [.null, .null, .null]) (C := R_Lg) (T := F_Lg) (N := 3) hx hb hts iw_Lg t_Lg t_Lg_ok hown (hts _ mw_60) (hts _ mw_61) (hts _ mw_4) hK.1 hP hD hS hA rfl (fun j hj => by rcases (show j = 0 ∨ j = 1 ∨ j = 2 by omega) with rfl | rfl | rfl <;> rfl) (Nat.le_of_ble_eq_true rfl) (Nat.le_of_ble_eq_true rfl) d_Nd_init_21 (fun q3 H hP hD hS => ?_)
  have hP : va_P D kmC [(h0, .inr (2, [.int 0, .int (1 : Int32), .ref (u2 0), .null, .int 0, .int 0, .null, .int 0, .null])), (u2 0, .inr (4, [.int (mst_configuration st0), .int (mst_membership st0), .int (mst_executed st0), .ref (u2 1), .int (mst_doneBits st0), .ref (u2 2)])), (u2 1, .inl (cI, 4, .inl (mst_values st0))), (u2 2, .inl (cI, 31, .inl (mst_answers st0))), (q3, .inr (1, [.null, .null, .null]))] H := hP
  have hD : va_D A [(h0, .inr (2, [.int 0, .int (1 : Int32), .ref (u2 0), .null, .int 0, .int 0, .null, .int 0, .null])), (u2 0, .inr (4, [.int (mst_configuration st0), .int (mst_membership st0), .int (mst_executed st0), .ref (u2 1), .int (mst_doneBits st0), .ref (u2 2)])), (u2 1, .inl (cI, 4, .inl (mst_values st0))), (u2 2, .inl (cI, 31, .inl (mst_answers st0))), (q3, .inr (1, [.null, .null, .null]))] := hD
  refine lv_dup hx hb d_Nd_init_24 rfl ?_
  refine km_cv (wr := [(h0, .inr (2, [.int 0, .int (1 : Int32), .ref (u2 0), .null, .int 0, .int 0, .null, .int 0, .null])), (u2 0, .inr (4, [.int (mst_configuration st0), .int (mst_membership st0), .int (mst_executed st0), .ref (u2 1), .int (mst_doneBits st0), .ref (u2 2)])), (u2 1, .inl (cI, 4, .inl (mst_values st0))), (u2 2, .inl (cI, 31, .inl (mst_answers st0)))]) (km_rIN (n := 0) hE kmG (c_Lg_init l D cI cN cZ q3) mw_64 (km_nM hK 2 rfl) mw_63 mw_4 rfl (by decide) ⟨rfl, rfl, ⟨by decide, by decide⟩, by decide, by decide⟩ hK (km_cut hP [4] rfl) (hD.sub [4] (by decide) rfl) rfl hl.1 rfl (Nat.le_of_ble_eq_true rfl) d_Nd_init_25) hP hD hS hA [4] [0, 1, 2, 3] rfl rfl (by decide) (by decide) (fun u4 H locs hu hP2 hD2 hS2 => ?_)
  subst hu
  have hP : va_P D kmC [(h0, .inr (2, [.int 0, .int (1 : Int32), .ref (u2 0), .null, .int 0, .int 0, .null, .int 0, .null])), (u2 0, .inr (4, [.int (mst_configuration st0), .int (mst_membership st0), .int (mst_executed st0), .ref (u2 1), .int (mst_doneBits st0), .ref (u2 2)])), (u2 1, .inl (cI, 4, .inl (mst_values st0))), (u2 2, .inl (cI, 31, .inl (mst_answers st0))), (u4 0, .inr (1, [.ref (u4 1), .ref (u4 2), .ref (u4 3)])), (u4 1, .inl (cI, 40, .inl (mlg_promisedBallots lg0))), (u4 2, .inl (cI, 40, .inl (mlg_voteBallots lg0))), (u4 3, .inl (cI, 40, .inl (mlg_voteCommands lg0)))] H := hP2
  have hD : va_D A [(h0, .inr (2, [.int 0, .int (1 : Int32), .ref (u2 0), .null, .int 0, .int 0, .null, .int 0, .null])), (u2 0, .inr (4, [.int (mst_configuration st0), .int (mst_membership st0), .int (mst_executed st0), .ref (u2 1), .int (mst_doneBits st0), .ref (u2 2)])), (u2 1, .inl (cI, 4, .inl (mst_values st0))), (u2 2, .inl (cI, 31, .inl (mst_answers st0))), (u4 0, .inr (1, [.ref (u4 1), .ref (u4 2), .ref (u4 3)])), (u4 1, .inl (cI, 40, .inl (mlg_promisedBallots lg0))), (u4 2, .inl (cI, 40, .inl (mlg_voteBallots lg0))), (u4 3, .inl (cI, 40, .inl (mlg_voteCommands lg0)))] := hD2
  have hS := hS2
  refine va_putF (D := D) (ci := 2) (v := .ref (u4 0)) (ty := .object "SealedChain$Ledger") (C := R_Nd) (T := F_Nd) (N := 9) hx hb hts iw_Nd t_Nd t_Nd_ok n_Nd hown hK.1 hP hD hS 0 rfl rfl 3 (by decide) (hts _ mw_125) (fun _ h => h) rfl hnm rfl (t_Nd_ok 3 (by decide)) rfl rfl (Nat.le_of_ble_eq_true rfl) d_Nd_init_28 (fun H locs hP hD hS => ?_)
  have hP : va_P D kmC [(h0, .inr (2, [.int 0, .int (1 : Int32), .ref (u2 0), .ref (u4 0), .int 0, .int 0, .null, .int 0, .null])), (u2 0, .inr (4, [.int (mst_configuration st0), .int (mst_membership st0), .int (mst_executed st0), .ref (u2 1), .int (mst_doneBits st0), .ref (u2 2)])), (u2 1, .inl (cI, 4, .inl (mst_values st0))), (u2 2, .inl (cI, 31, .inl (mst_answers st0))), (u4 0, .inr (1, [.ref (u4 1), .ref (u4 2), .ref (u4 3)])), (u4 1, .inl (cI, 40, .inl (mlg_promisedBallots lg0))), (u4 2, .inl (cI, 40, .inl (mlg_voteBallots lg0))), (u4 3, .inl (cI, 40, .inl (mlg_voteCommands lg0)))] H := hP
  have hD : va_D A [(h0, .inr (2, [.int 0, .int (1 : Int32), .ref (u2 0), .ref (u4 0), .int 0, .int 0, .null, .int 0, .null])), (u2 0, .inr (4, [.int (mst_configuration st0), .int (mst_membership st0), .int (mst_executed st0), .ref (u2 1), .int (mst_doneBits st0), .ref (u2 2)])), (u2 1, .inl (cI, 4, .inl (mst_values st0))), (u2 2, .inl (cI, 31, .inl (mst_answers st0))), (u4 0, .inr (1, [.ref (u4 1), .ref (u4 2), .ref (u4 3)])), (u4 1, .inl (cI, 40, .inl (mlg_promisedBallots lg0))), (u4 2, .inl (cI, 40, .inl (mlg_voteBallots lg0))), (u4 3, .inl (cI, 40, .inl (mlg_voteCommands lg0)))] := hD
  refine lv_aload_n hx hb d_Nd_init_31 rfl (lv_at hl 0 rfl) ?_
  refine lv_iconst (v := (0 : Int32)) hx hb d_Nd_init_32 (by decide) ?_
  refine va_put (D := D) (ci := 2) (v := .int (0 : Int32)) (ty := .int) (C := R_Nd) (T := F_Nd) (N := 9) hx hb hts iw_Nd t_Nd t_Nd_ok n_Nd hown hK.1 hP hD hS 0 rfl rfl 4 (by decide) (hts _ mw_127) (fun _ h => h) rfl (t_Nd_ok 4 (by decide)) rfl rfl (Nat.le_of_ble_eq_true rfl) d_Nd_init_33 (fun H locs hP hD hS => ?_)
  have hP : va_P D kmC [(h0, .inr (2, [.int 0, .int (1 : Int32), .ref (u2 0), .ref (u4 0), .int (0 : Int32), .int 0, .null, .int 0, .null])), (u2 0, .inr (4, [.int (mst_configuration st0), .int (mst_membership st0), .int (mst_executed st0), .ref (u2 1), .int (mst_doneBits st0), .ref (u2 2)])), (u2 1, .inl (cI, 4, .inl (mst_values st0))), (u2 2, .inl (cI, 31, .inl (mst_answers st0))), (u4 0, .inr (1, [.ref (u4 1), .ref (u4 2), .ref (u4 3)])), (u4 1, .inl (cI, 40, .inl (mlg_promisedBallots lg0))), (u4 2, .inl (cI, 40, .inl (mlg_voteBallots lg0))), (u4 3, .inl (cI, 40, .inl (mlg_voteCommands lg0)))] H := hP
  have hD : va_D A [(h0, .inr (2, [.int 0, .int (1 : Int32), .ref (u2 0), .ref (u4 0), .int (0 : Int32), .int 0, .null, .int 0, .null])), (u2 0, .inr (4, [.int (mst_configuration st0), .int (mst_membership st0), .int (mst_executed st0), .ref (u2 1), .int (mst_doneBits st0), .ref (u2 2)])), (u2 1, .inl (cI, 4, .inl (mst_values st0))), (u2 2, .inl (cI, 31, .inl (mst_answers st0))), (u4 0, .inr (1, [.ref (u4 1), .ref (u4 2), .ref (u4 3)])), (u4 1, .inl (cI, 40, .inl (mlg_promisedBallots lg0))), (u4 2, .inl (cI, 40, .inl (mlg_voteBallots lg0))), (u4 3, .inl (cI, 40, .inl (mlg_voteCommands lg0)))] := hD
  refine lv_aload_n hx hb d_Nd_init_36 rfl (lv_at hl 0 rfl) ?_
  refine lv_iconst (v := (0 : Int32)) hx hb d_Nd_init_37 (by decide) ?_
  refine va_put (D := D) (ci := 2) (v := .int (0 : Int32)) (ty := .int) (C := R_Nd) (T := F_Nd) (N := 9) hx hb hts iw_Nd t_Nd t_Nd_ok n_Nd hown hK.1 hP hD hS 0 rfl rfl 5 (by decide) (hts _ mw_129) (fun _ h => h) rfl (t_Nd_ok 5 (by decide)) rfl rfl (Nat.le_of_ble_eq_true rfl) d_Nd_init_38 (fun H locs hP hD hS => ?_)
  have hP : va_P D kmC [(h0, .inr (2, [.int 0, .int (1 : Int32), .ref (u2 0), .ref (u4 0), .int (0 : Int32), .int (0 : Int32), .null, .int 0, .null])), (u2 0, .inr (4, [.int (mst_configuration st0), .int (mst_membership st0), .int (mst_executed st0), .ref (u2 1), .int (mst_doneBits st0), .ref (u2 2)])), (u2 1, .inl (cI, 4, .inl (mst_values st0))), (u2 2, .inl (cI, 31, .inl (mst_answers st0))), (u4 0, .inr (1, [.ref (u4 1), .ref (u4 2), .ref (u4 3)])), (u4 1, .inl (cI, 40, .inl (mlg_promisedBallots lg0))), (u4 2, .inl (cI, 40, .inl (mlg_voteBallots lg0))), (u4 3, .inl (cI, 40, .inl (mlg_voteCommands lg0)))] H := hP
  have hD : va_D A [(h0, .inr (2, [.int 0, .int (1 : Int32), .ref (u2 0), .ref (u4 0), .int (0 : Int32), .int (0 : Int32), .null, .int 0, .null])), (u2 0, .inr (4, [.int (mst_configuration st0), .int (mst_membership st0), .int (mst_executed st0), .ref (u2 1), .int (mst_doneBits st0), .ref (u2 2)])), (u2 1, .inl (cI, 4, .inl (mst_values st0))), (u2 2, .inl (cI, 31, .inl (mst_answers st0))), (u4 0, .inr (1, [.ref (u4 1), .ref (u4 2), .ref (u4 3)])), (u4 1, .inl (cI, 40, .inl (mlg_promisedBallots lg0))), (u4 2, .inl (cI, 40, .inl (mlg_voteBallots lg0))), (u4 3, .inl (cI, 40, .inl (mlg_voteCommands lg0)))] := hD
  refine lv_aload_n hx hb d_Nd_init_41 rfl (lv_at hl 0 rfl) ?_
  refine lv_bipush (v := (9 : Int32)) hx hb d_Nd_init_42 (by decide) ?_
  refine km_newi hx hb (hts _ mw_59) hK.1 hP hD hS hA 0 rfl (n := (9 : Int32)) (N' := 9) (by decide) (by decide) (by decide) (Nat.le_of_ble_eq_true rfl) (Nat.le_of_ble_eq_true rfl) d_Nd_init_44 (fun q5 H hP hD hS => ?_)
  have hP : va_P D kmC [(h0, .inr (2, [.int 0, .int (1 : Int32), .ref (u2 0), .ref (u4 0), .int (0 : Int32), .int (0 : Int32), .null, .int 0, .null])), (u2 0, .inr (4, [.int (mst_configuration st0), .int (mst_membership st0), .int (mst_executed st0), .ref (u2 1), .int (mst_doneBits st0), .ref (u2 2)])), (u2 1, .inl (cI, 4, .inl (mst_values st0))), (u2 2, .inl (cI, 31, .inl (mst_answers st0))), (u4 0, .inr (1, [.ref (u4 1), .ref (u4 2), .ref (u4 3)])), (u4 1, .inl (cI, 40, .inl (mlg_promisedBallots lg0))), (u4 2, .inl (cI, 40, .inl (mlg_voteBallots lg0))), (u4 3, .inl (cI, 40, .inl (mlg_voteCommands lg0))), (q5, .inl (cI, 9, .inl (fun _ => 0)))] H := hP
  have hD : va_D A [(h0, .inr (2, [.int 0, .int (1 : Int32), .ref (u2 0), .ref (u4 0), .int (0 : Int32), .int (0 : Int32), .null, .int 0, .null])), (u2 0, .inr (4, [.int (mst_configuration st0), .int (mst_membership st0), .int (mst_executed st0), .ref (u2 1), .int (mst_doneBits st0), .ref (u2 2)])), (u2 1, .inl (cI, 4, .inl (mst_values st0))), (u2 2, .inl (cI, 31, .inl (mst_answers st0))), (u4 0, .inr (1, [.ref (u4 1), .ref (u4 2), .ref (u4 3)])), (u4 1, .inl (cI, 40, .inl (mlg_promisedBallots lg0))), (u4 2, .inl (cI, 40, .inl (mlg_voteBallots lg0))), (u4 3, .inl (cI, 40, .inl (mlg_voteCommands lg0))), (q5, .inl (cI, 9, .inl (fun _ => 0)))] := hD
  refine va_putF (D := D) (ci := 2) (v := .ref q5) (ty := .array .int) (C := R_Nd) (T := F_Nd) (N := 9) hx hb hts iw_Nd t_Nd t_Nd_ok n_Nd hown hK.1 hP hD hS 0 rfl rfl 6 (by decide) (hts _ mw_131) (fun _ h => h) rfl hnm rfl (t_Nd_ok 6 (by decide)) rfl rfl (Nat.le_of_ble_eq_true rfl) d_Nd_init_46 (fun H locs hP hD hS => ?_)
  have hP : va_P D kmC [(h0, .inr (2, [.int 0, .int (1 : Int32), .ref (u2 0), .ref (u4 0), .int (0 : Int32), .int (0 : Int32), .ref q5, .int 0, .null])), (u2 0, .inr (4, [.int (mst_configuration st0), .int (mst_membership st0), .int (mst_executed st0), .ref (u2 1), .int (mst_doneBits st0), .ref (u2 2)])), (u2 1, .inl (cI, 4, .inl (mst_values st0))), (u2 2, .inl (cI, 31, .inl (mst_answers st0))), (u4 0, .inr (1, [.ref (u4 1), .ref (u4 2), .ref (u4 3)])), (u4 1, .inl (cI, 40, .inl (mlg_promisedBallots lg0))), (u4 2, .inl (cI, 40, .inl (mlg_voteBallots lg0))), (u4 3, .inl (cI, 40, .inl (mlg_voteCommands lg0))), (q5, .inl (cI, 9, .inl (fun _ => 0)))] H := hP
  have hD : va_D A [(h0, .inr (2, [.int 0, .int (1 : Int32), .ref (u2 0), .ref (u4 0), .int (0 : Int32), .int (0 : Int32), .ref q5, .int 0, .null])), (u2 0, .inr (4, [.int (mst_configuration st0), .int (mst_membership st0), .int (mst_executed st0), .ref (u2 1), .int (mst_doneBits st0), .ref (u2 2)])), (u2 1, .inl (cI, 4, .inl (mst_values st0))), (u2 2, .inl (cI, 31, .inl (mst_answers st0))), (u4 0, .inr (1, [.ref (u4 1), .ref (u4 2), .ref (u4 3)])), (u4 1, .inl (cI, 40, .inl (mlg_promisedBallots lg0))), (u4 2, .inl (cI, 40, .inl (mlg_voteBallots lg0))), (u4 3, .inl (cI, 40, .inl (mlg_voteCommands lg0))), (q5, .inl (cI, 9, .inl (fun _ => 0)))] := hD
  refine lv_aload_n hx hb d_Nd_init_49 rfl (lv_at hl 0 rfl) ?_
  refine lv_iconst (v := (0 : Int32)) hx hb d_Nd_init_50 (by decide) ?_
  refine va_put (D := D) (ci := 2) (v := .int (0 : Int32)) (ty := .int) (C := R_Nd) (T := F_Nd) (N := 9) hx hb hts iw_Nd t_Nd t_Nd_ok n_Nd hown hK.1 hP hD hS 0 rfl rfl 7 (by decide) (hts _ mw_133) (fun _ h => h) rfl (t_Nd_ok 7 (by decide)) rfl rfl (Nat.le_of_ble_eq_true rfl) d_Nd_init_51 (fun H locs hP hD hS => ?_)
  have hP : va_P D kmC [(h0, .inr (2, [.int 0, .int (1 : Int32), .ref (u2 0), .ref (u4 0), .int (0 : Int32), .int (0 : Int32), .ref q5, .int (0 : Int32), .null])), (u2 0, .inr (4, [.int (mst_configuration st0), .int (mst_membership st0), .int (mst_executed st0), .ref (u2 1), .int (mst_doneBits st0), .ref (u2 2)])), (u2 1, .inl (cI, 4, .inl (mst_values st0))), (u2 2, .inl (cI, 31, .inl (mst_answers st0))), (u4 0, .inr (1, [.ref (u4 1), .ref (u4 2), .ref (u4 3)])), (u4 1, .inl (cI, 40, .inl (mlg_promisedBallots lg0))), (u4 2, .inl (cI, 40, .inl (mlg_voteBallots lg0))), (u4 3, .inl (cI, 40, .inl (mlg_voteCommands lg0))), (q5, .inl (cI, 9, .inl (fun _ => 0)))] H := hP
  have hD : va_D A [(h0, .inr (2, [.int 0, .int (1 : Int32), .ref (u2 0), .ref (u4 0), .int (0 : Int32), .int (0 : Int32), .ref q5, .int (0 : Int32), .null])), (u2 0, .inr (4, [.int (mst_configuration st0), .int (mst_membership st0), .int (mst_executed st0), .ref (u2 1), .int (mst_doneBits st0), .ref (u2 2)])), (u2 1, .inl (cI, 4, .inl (mst_values st0))), (u2 2, .inl (cI, 31, .inl (mst_answers st0))), (u4 0, .inr (1, [.ref (u4 1), .ref (u4 2), .ref (u4 3)])), (u4 1, .inl (cI, 40, .inl (mlg_promisedBallots lg0))), (u4 2, .inl (cI, 40, .inl (mlg_voteBallots lg0))), (u4 3, .inl (cI, 40, .inl (mlg_voteCommands lg0))), (q5, .inl (cI, 9, .inl (fun _ => 0)))] := hD
  refine lv_aload_n hx hb d_Nd_init_54 rfl (lv_at hl 0 rfl) ?_
  refine va_new (ci := 0) (fs := [.int 0, .int 0, .int 0, .int 0, .int 0, .int 0, .int 0]) (C := R_At) (T := F_At) (N := 7) hx hb hts iw_At t_At t_At_ok hown (hts _ mw_79) (hts _ mw_80) (hts _ mw_5) hK.1 hP hD hS hA rfl (fun j hj => by rcases (show j = 0 ∨ j = 1 ∨ j = 2 ∨ j = 3 ∨ j = 4 ∨ j = 5 ∨ j = 6 by omega) with rfl | rfl | rfl | rfl | rfl | rfl | rfl <;> rfl) (Nat.le_of_ble_eq_true rfl) (Nat.le_of_ble_eq_true rfl) d_Nd_init_55 (fun q6 H hP hD hS => ?_)
  have hP : va_P D kmC [(h0, .inr (2, [.int 0, .int (1 : Int32), .ref (u2 0), .ref (u4 0), .int (0 : Int32), .int (0 : Int32), .ref q5, .int (0 : Int32), .null])), (u2 0, .inr (4, [.int (mst_configuration st0), .int (mst_membership st0), .int (mst_executed st0), .ref (u2 1), .int (mst_doneBits st0), .ref (u2 2)])), (u2 1, .inl (cI, 4, .inl (mst_values st0))), (u2 2, .inl (cI, 31, .inl (mst_answers st0))), (u4 0, .inr (1, [.ref (u4 1), .ref (u4 2), .ref (u4 3)])), (u4 1, .inl (cI, 40, .inl (mlg_promisedBallots lg0))), (u4 2, .inl (cI, 40, .inl (mlg_voteBallots lg0))), (u4 3, .inl (cI, 40, .inl (mlg_voteCommands lg0))), (q5, .inl (cI, 9, .inl (fun _ => 0))), (q6, .inr (0, [.int 0, .int 0, .int 0, .int 0, .int 0, .int 0, .int 0]))] H := hP
  have hD : va_D A [(h0, .inr (2, [.int 0, .int (1 : Int32), .ref (u2 0), .ref (u4 0), .int (0 : Int32), .int (0 : Int32), .ref q5, .int (0 : Int32), .null])), (u2 0, .inr (4, [.int (mst_configuration st0), .int (mst_membership st0), .int (mst_executed st0), .ref (u2 1), .int (mst_doneBits st0), .ref (u2 2)])), (u2 1, .inl (cI, 4, .inl (mst_values st0))), (u2 2, .inl (cI, 31, .inl (mst_answers st0))), (u4 0, .inr (1, [.ref (u4 1), .ref (u4 2), .ref (u4 3)])), (u4 1, .inl (cI, 40, .inl (mlg_promisedBallots lg0))), (u4 2, .inl (cI, 40, .inl (mlg_voteBallots lg0))), (u4 3, .inl (cI, 40, .inl (mlg_voteCommands lg0))), (q5, .inl (cI, 9, .inl (fun _ => 0))), (q6, .inr (0, [.int 0, .int 0, .int 0, .int 0, .int 0, .int 0, .int 0]))] := hD
  refine lv_dup hx hb d_Nd_init_58 rfl ?_
  refine km_cv (wr := [(h0, .inr (2, [.int 0, .int (1 : Int32), .ref (u2 0), .ref (u4 0), .int (0 : Int32), .int (0 : Int32), .ref q5, .int (0 : Int32), .null])), (u2 0, .inr (4, [.int (mst_configuration st0), .int (mst_membership st0), .int (mst_executed st0), .ref (u2 1), .int (mst_doneBits st0), .ref (u2 2)])), (u2 1, .inl (cI, 4, .inl (mst_values st0))), (u2 2, .inl (cI, 31, .inl (mst_answers st0))), (u4 0, .inr (1, [.ref (u4 1), .ref (u4 2), .ref (u4 3)])), (u4 1, .inl (cI, 40, .inl (mlg_promisedBallots lg0))), (u4 2, .inl (cI, 40, .inl (mlg_voteBallots lg0))), (u4 3, .inl (cI, 40, .inl (mlg_voteCommands lg0))), (q5, .inl (cI, 9, .inl (fun _ => 0)))]) (km_rIN (n := 0) hE kmG (c_At_init l D cI cN cZ q6) mw_83 (km_nM hK 3 rfl) mw_82 mw_5 rfl (by decide) ⟨rfl, rfl, ⟨by decide, by decide⟩, by decide, by decide⟩ hK (km_cut hP [9] rfl) (hD.sub [9] (by decide) rfl) rfl hl.1 rfl (Nat.le_of_ble_eq_true rfl) d_Nd_init_59) hP hD hS hA [9] [0, 1, 2, 3, 4, 5, 6, 7, 8] rfl rfl (by decide) (by decide) (fun u7 H locs hu hP2 hD2 hS2 => ?_)
  subst hu
  have hP : va_P D kmC [(h0, .inr (2, [.int 0, .int (1 : Int32), .ref (u2 0), .ref (u4 0), .int (0 : Int32), .int (0 : Int32), .ref q5, .int (0 : Int32), .null])), (u2 0, .inr (4, [.int (mst_configuration st0), .int (mst_membership st0), .int (mst_executed st0), .ref (u2 1), .int (mst_doneBits st0), .ref (u2 2)])), (u2 1, .inl (cI, 4, .inl (mst_values st0))), (u2 2, .inl (cI, 31, .inl (mst_answers st0))), (u4 0, .inr (1, [.ref (u4 1), .ref (u4 2), .ref (u4 3)])), (u4 1, .inl (cI, 40, .inl (mlg_promisedBallots lg0))), (u4 2, .inl (cI, 40, .inl (mlg_voteBallots lg0))), (u4 3, .inl (cI, 40, .inl (mlg_voteCommands lg0))), (q5, .inl (cI, 9, .inl (fun _ => 0))), (u7 0, .inr (0, [.int (mat_slot at0), .int (mat_ballot at0), .int (mat_promisers at0), .int (mat_voters at0), .int (mat_bestBallot at0), .int (mat_bestCommand at0), .int (mat_command at0)]))] H := hP2
  have hD : va_D A [(h0, .inr (2, [.int 0, .int (1 : Int32), .ref (u2 0), .ref (u4 0), .int (0 : Int32), .int (0 : Int32), .ref q5, .int (0 : Int32), .null])), (u2 0, .inr (4, [.int (mst_configuration st0), .int (mst_membership st0), .int (mst_executed st0), .ref (u2 1), .int (mst_doneBits st0), .ref (u2 2)])), (u2 1, .inl (cI, 4, .inl (mst_values st0))), (u2 2, .inl (cI, 31, .inl (mst_answers st0))), (u4 0, .inr (1, [.ref (u4 1), .ref (u4 2), .ref (u4 3)])), (u4 1, .inl (cI, 40, .inl (mlg_promisedBallots lg0))), (u4 2, .inl (cI, 40, .inl (mlg_voteBallots lg0))), (u4 3, .inl (cI, 40, .inl (mlg_voteCommands lg0))), (q5, .inl (cI, 9, .inl (fun _ => 0))), (u7 0, .inr (0, [.int (mat_slot at0), .int (mat_ballot at0), .int (mat_promisers at0), .int (mat_voters at0), .int (mat_bestBallot at0), .int (mat_bestCommand at0), .int (mat_command at0)]))] := hD2
  have hS := hS2
  refine va_putF (D := D) (ci := 2) (v := .ref (u7 0)) (ty := .object "SealedChain$Attempt") (C := R_Nd) (T := F_Nd) (N := 9) hx hb hts iw_Nd t_Nd t_Nd_ok n_Nd hown hK.1 hP hD hS 0 rfl rfl 8 (by decide) (hts _ mw_135) (fun _ h => h) rfl hnm rfl (t_Nd_ok 8 (by decide)) rfl rfl (Nat.le_of_ble_eq_true rfl) d_Nd_init_62 (fun H locs hP hD hS => ?_)
  have hP : va_P D kmC [(h0, .inr (2, [.int 0, .int (1 : Int32), .ref (u2 0), .ref (u4 0), .int (0 : Int32), .int (0 : Int32), .ref q5, .int (0 : Int32), .ref (u7 0)])), (u2 0, .inr (4, [.int (mst_configuration st0), .int (mst_membership st0), .int (mst_executed st0), .ref (u2 1), .int (mst_doneBits st0), .ref (u2 2)])), (u2 1, .inl (cI, 4, .inl (mst_values st0))), (u2 2, .inl (cI, 31, .inl (mst_answers st0))), (u4 0, .inr (1, [.ref (u4 1), .ref (u4 2), .ref (u4 3)])), (u4 1, .inl (cI, 40, .inl (mlg_promisedBallots lg0))), (u4 2, .inl (cI, 40, .inl (mlg_voteBallots lg0))), (u4 3, .inl (cI, 40, .inl (mlg_voteCommands lg0))), (q5, .inl (cI, 9, .inl (fun _ => 0))), (u7 0, .inr (0, [.int (mat_slot at0), .int (mat_ballot at0), .int (mat_promisers at0), .int (mat_voters at0), .int (mat_bestBallot at0), .int (mat_bestCommand at0), .int (mat_command at0)]))] H := hP
  have hD : va_D A [(h0, .inr (2, [.int 0, .int (1 : Int32), .ref (u2 0), .ref (u4 0), .int (0 : Int32), .int (0 : Int32), .ref q5, .int (0 : Int32), .ref (u7 0)])), (u2 0, .inr (4, [.int (mst_configuration st0), .int (mst_membership st0), .int (mst_executed st0), .ref (u2 1), .int (mst_doneBits st0), .ref (u2 2)])), (u2 1, .inl (cI, 4, .inl (mst_values st0))), (u2 2, .inl (cI, 31, .inl (mst_answers st0))), (u4 0, .inr (1, [.ref (u4 1), .ref (u4 2), .ref (u4 3)])), (u4 1, .inl (cI, 40, .inl (mlg_promisedBallots lg0))), (u4 2, .inl (cI, 40, .inl (mlg_voteBallots lg0))), (u4 3, .inl (cI, 40, .inl (mlg_voteCommands lg0))), (q5, .inl (cI, 9, .inl (fun _ => 0))), (u7 0, .inr (0, [.int (mat_slot at0), .int (mat_ballot at0), .int (mat_promisers at0), .int (mat_voters at0), .int (mat_bestBallot at0), .int (mat_bestCommand at0), .int (mat_command at0)]))] := hD
  refine lv_aload_n hx hb d_Nd_init_65 rfl (lv_at hl 0 rfl) ?_
  refine lv_iload_n hx hb d_Nd_init_66 rfl (lv_at hl 1 rfl) ?_
  refine va_putF (D := D) (ci := 2) (v := .int x1) (ty := .int) (C := R_Nd) (T := F_Nd) (N := 9) hx hb hts iw_Nd t_Nd t_Nd_ok n_Nd hown hK.1 hP hD hS 0 rfl rfl 0 (by decide) (hts _ mw_120) (fun _ h => h) rfl hnm rfl (t_Nd_ok 0 (by decide)) rfl rfl (Nat.le_of_ble_eq_true rfl) d_Nd_init_67 (fun H locs hP hD hS => ?_)
  have hP : va_P D kmC [(h0, .inr (2, [.int x1, .int (1 : Int32), .ref (u2 0), .ref (u4 0), .int (0 : Int32), .int (0 : Int32), .ref q5, .int (0 : Int32), .ref (u7 0)])), (u2 0, .inr (4, [.int (mst_configuration st0), .int (mst_membership st0), .int (mst_executed st0), .ref (u2 1), .int (mst_doneBits st0), .ref (u2 2)])), (u2 1, .inl (cI, 4, .inl (mst_values st0))), (u2 2, .inl (cI, 31, .inl (mst_answers st0))), (u4 0, .inr (1, [.ref (u4 1), .ref (u4 2), .ref (u4 3)])), (u4 1, .inl (cI, 40, .inl (mlg_promisedBallots lg0))), (u4 2, .inl (cI, 40, .inl (mlg_voteBallots lg0))), (u4 3, .inl (cI, 40, .inl (mlg_voteCommands lg0))), (q5, .inl (cI, 9, .inl (fun _ => 0))), (u7 0, .inr (0, [.int (mat_slot at0), .int (mat_ballot at0), .int (mat_promisers at0), .int (mat_voters at0), .int (mat_bestBallot at0), .int (mat_bestCommand at0), .int (mat_command at0)]))] H := hP
  have hD : va_D A [(h0, .inr (2, [.int x1, .int (1 : Int32), .ref (u2 0), .ref (u4 0), .int (0 : Int32), .int (0 : Int32), .ref q5, .int (0 : Int32), .ref (u7 0)])), (u2 0, .inr (4, [.int (mst_configuration st0), .int (mst_membership st0), .int (mst_executed st0), .ref (u2 1), .int (mst_doneBits st0), .ref (u2 2)])), (u2 1, .inl (cI, 4, .inl (mst_values st0))), (u2 2, .inl (cI, 31, .inl (mst_answers st0))), (u4 0, .inr (1, [.ref (u4 1), .ref (u4 2), .ref (u4 3)])), (u4 1, .inl (cI, 40, .inl (mlg_promisedBallots lg0))), (u4 2, .inl (cI, 40, .inl (mlg_voteBallots lg0))), (u4 3, .inl (cI, 40, .inl (mlg_voteCommands lg0))), (q5, .inl (cI, 9, .inl (fun _ => 0))), (u7 0, .inr (0, [.int (mat_slot at0), .int (mat_ballot at0), .int (mat_promisers at0), .int (mat_voters at0), .int (mat_bestBallot at0), .int (mat_bestCommand at0), .int (mat_command at0)]))] := hD
  refine lv_aload_n hx hb d_Nd_init_70 rfl (lv_at hl 0 rfl) ?_
  refine va_get (D := D) (ci := 2) (v := .ref q5) (C := R_Nd) (T := F_Nd) (N := 9) hx hb hts iw_Nd hown hK.1 hP 0 rfl rfl 6 (by decide) (hts _ mw_131) (fun _ h => h) rfl d_Nd_init_71 ?_
  refine lv_iconst (v := (-1 : Int32)) hx hb d_Nd_init_74 (by decide) ?_
  refine km_cv (wr := [(h0, .inr (2, [.int x1, .int (1 : Int32), .ref (u2 0), .ref (u4 0), .int (0 : Int32), .int (0 : Int32), .ref q5, .int (0 : Int32), .ref (u7 0)])), (u2 0, .inr (4, [.int (mst_configuration st0), .int (mst_membership st0), .int (mst_executed st0), .ref (u2 1), .int (mst_doneBits st0), .ref (u2 2)])), (u2 1, .inl (cI, 4, .inl (mst_values st0))), (u2 2, .inl (cI, 31, .inl (mst_answers st0))), (u4 0, .inr (1, [.ref (u4 1), .ref (u4 2), .ref (u4 3)])), (u4 1, .inl (cI, 40, .inl (mlg_promisedBallots lg0))), (u4 2, .inl (cI, 40, .inl (mlg_voteBallots lg0))), (u4 3, .inl (cI, 40, .inl (mlg_voteCommands lg0))), (u7 0, .inr (0, [.int (mat_slot at0), .int (mat_ballot at0), .int (mat_promisers at0), .int (mat_voters at0), .int (mat_bestBallot at0), .int (mat_bestCommand at0), .int (mat_command at0)]))]) (km_rS (n := 2) hE kmG (c_Ja_fill l D cI cN cZ (fun _ => q5) (fun _ => 0) (-1 : Int32) _ (p_fill (fun _ => 0) (-1 : Int32))) mw_119 mw_117 mw_118 mw_6 (by decide) ⟨rfl, rfl, ⟨by decide, by decide⟩, by decide, by decide⟩ hK (km_cut hP [8] rfl) (hD.sub [8] (by decide) rfl) rfl hl.1 rfl (Nat.le_of_ble_eq_true rfl) d_Nd_init_75) hP hD hS hA [8] [0, 1, 2, 3, 4, 5, 6, 7, 9] rfl rfl (by decide) (by decide) (fun f8 H locs hu hP2 hD2 hS2 => ?_)
  subst hu
  have hP : va_P D kmC [(h0, .inr (2, [.int x1, .int (1 : Int32), .ref (u2 0), .ref (u4 0), .int (0 : Int32), .int (0 : Int32), .ref q5, .int (0 : Int32), .ref (u7 0)])), (u2 0, .inr (4, [.int (mst_configuration st0), .int (mst_membership st0), .int (mst_executed st0), .ref (u2 1), .int (mst_doneBits st0), .ref (u2 2)])), (u2 1, .inl (cI, 4, .inl (mst_values st0))), (u2 2, .inl (cI, 31, .inl (mst_answers st0))), (u4 0, .inr (1, [.ref (u4 1), .ref (u4 2), .ref (u4 3)])), (u4 1, .inl (cI, 40, .inl (mlg_promisedBallots lg0))), (u4 2, .inl (cI, 40, .inl (mlg_voteBallots lg0))), (u4 3, .inl (cI, 40, .inl (mlg_voteCommands lg0))), (u7 0, .inr (0, [.int (mat_slot at0), .int (mat_ballot at0), .int (mat_promisers at0), .int (mat_voters at0), .int (mat_bestBallot at0), .int (mat_bestCommand at0), .int (mat_command at0)])), (q5, .inl (cI, 9, .inl (fun j => if j < 9 then (-1 : Int32) else (fun _ => 0) j)))] H := hP2
  have hD : va_D A [(h0, .inr (2, [.int x1, .int (1 : Int32), .ref (u2 0), .ref (u4 0), .int (0 : Int32), .int (0 : Int32), .ref q5, .int (0 : Int32), .ref (u7 0)])), (u2 0, .inr (4, [.int (mst_configuration st0), .int (mst_membership st0), .int (mst_executed st0), .ref (u2 1), .int (mst_doneBits st0), .ref (u2 2)])), (u2 1, .inl (cI, 4, .inl (mst_values st0))), (u2 2, .inl (cI, 31, .inl (mst_answers st0))), (u4 0, .inr (1, [.ref (u4 1), .ref (u4 2), .ref (u4 3)])), (u4 1, .inl (cI, 40, .inl (mlg_promisedBallots lg0))), (u4 2, .inl (cI, 40, .inl (mlg_voteBallots lg0))), (u4 3, .inl (cI, 40, .inl (mlg_voteCommands lg0))), (u7 0, .inr (0, [.int (mat_slot at0), .int (mat_ballot at0), .int (mat_promisers at0), .int (mat_voters at0), .int (mat_bestBallot at0), .int (mat_bestCommand at0), .int (mat_command at0)])), (q5, .inl (cI, 9, .inl (fun j => if j < 9 then (-1 : Int32) else (fun _ => 0) j)))] := hD2
  have hS := hS2
  have hP := hP.sub (ws' := mndW cI cN cZ (km_ad [h0, (u2 0), (u2 1), (u2 2), (u4 0), (u4 1), (u4 2), (u4 3), q5, (u7 0)]) (nd0 x1)) [0, 1, 2, 3, 4, 5, 6, 7, 9, 8] rfl
  have hD := hD.sub (ws' := mndW cI cN cZ (km_ad [h0, (u2 0), (u2 1), (u2 2), (u4 0), (u4 1), (u4 2), (u4 3), q5, (u7 0)]) (nd0 x1)) [0, 1, 2, 3, 4, 5, 6, 7, 9, 8] (by decide) rfl
  exact W.vret hx hb hr (fun t ht hW => ⟨⟨(km_ad [h0, (u2 0), (u2 1), (u2 2), (u4 0), (u4 1), (u4 2), (u4 3), q5, (u7 0)]), rfl, rfl, by rw [ht]; exact hP, hD⟩, hS.F ht⟩) hS.2.2 d_Nd_init_78
