theorem d_Bk_has_0 : decode b_Bk_has 0 = .ok (.iload_n 1, 1) := by decide +kernel
theorem d_Bk_has_1 : decode b_Bk_has 1 = .ok (.iconst 1, 1) := by decide +kernel
theorem d_Bk_has_2 : decode b_Bk_has 2 = .ok (.if_icmp .lt 15, 3) := by decide +kernel
theorem d_Bk_has_5 : decode b_Bk_has 5 = .ok (.iload_n 1, 1) := by decide +kernel
theorem d_Bk_has_6 : decode b_Bk_has 6 = .ok (.aload_n 0, 1) := by decide +kernel
theorem d_Bk_has_7 : decode b_Bk_has 7 = .ok (.getfield 21, 3) := by decide +kernel
theorem d_Bk_has_10 : decode b_Bk_has 10 = .ok (.if_icmp .gt 7, 3) := by decide +kernel
theorem d_Bk_has_13 : decode b_Bk_has 13 = .ok (.iconst 1, 1) := by decide +kernel
theorem d_Bk_has_14 : decode b_Bk_has 14 = .ok (.goto 4, 3) := by decide +kernel
theorem d_Bk_has_17 : decode b_Bk_has 17 = .ok (.iconst 0, 1) := by decide +kernel
theorem d_Bk_has_18 : decode b_Bk_has 18 = .ok (.ireturn, 1) := by decide +kernel
theorem d_Bk_isFull_0 : decode b_Bk_isFull 0 = .ok (.aload_n 0, 1) := by decide +kernel
theorem d_Bk_isFull_1 : decode b_Bk_isFull 1 = .ok (.getfield 21, 3) := by decide +kernel
theorem d_Bk_isFull_4 : decode b_Bk_isFull 4 = .ok (.bipush 30, 2) := by decide +kernel
theorem d_Bk_isFull_6 : decode b_Bk_isFull 6 = .ok (.if_icmp .lt 7, 3) := by decide +kernel
theorem d_Bk_isFull_9 : decode b_Bk_isFull 9 = .ok (.iconst 1, 1) := by decide +kernel
theorem d_Bk_isFull_10 : decode b_Bk_isFull 10 = .ok (.goto 4, 3) := by decide +kernel
theorem d_Bk_isFull_13 : decode b_Bk_isFull 13 = .ok (.iconst 0, 1) := by decide +kernel
theorem d_Bk_isFull_14 : decode b_Bk_isFull 14 = .ok (.ireturn, 1) := by decide +kernel
theorem d_Bk_add_0 : decode b_Bk_add 0 = .ok (.aload_n 0, 1) := by decide +kernel
theorem d_Bk_add_1 : decode b_Bk_add 1 = .ok (.dup, 1) := by decide +kernel
theorem d_Bk_add_2 : decode b_Bk_add 2 = .ok (.getfield 21, 3) := by decide +kernel
theorem d_Bk_add_5 : decode b_Bk_add 5 = .ok (.iconst 1, 1) := by decide +kernel
theorem d_Bk_add_6 : decode b_Bk_add 6 = .ok (.iadd, 1) := by decide +kernel
theorem d_Bk_add_7 : decode b_Bk_add 7 = .ok (.putfield 21, 3) := by decide +kernel
theorem d_Bk_add_10 : decode b_Bk_add 10 = .ok (.aload_n 0, 1) := by decide +kernel
theorem d_Bk_add_11 : decode b_Bk_add 11 = .ok (.getfield 9, 3) := by decide +kernel
theorem d_Bk_add_14 : decode b_Bk_add 14 = .ok (.aload_n 0, 1) := by decide +kernel
theorem d_Bk_add_15 : decode b_Bk_add 15 = .ok (.getfield 21, 3) := by decide +kernel
theorem d_Bk_add_18 : decode b_Bk_add 18 = .ok (.iload_n 1, 1) := by decide +kernel
theorem d_Bk_add_19 : decode b_Bk_add 19 = .ok (.iastore, 1) := by decide +kernel
theorem d_Bk_add_20 : decode b_Bk_add 20 = .ok (.aload_n 0, 1) := by decide +kernel
theorem d_Bk_add_21 : decode b_Bk_add 21 = .ok (.getfield 15, 3) := by decide +kernel
theorem d_Bk_add_24 : decode b_Bk_add 24 = .ok (.aload_n 0, 1) := by decide +kernel
theorem d_Bk_add_25 : decode b_Bk_add 25 = .ok (.getfield 21, 3) := by decide +kernel
theorem d_Bk_add_28 : decode b_Bk_add 28 = .ok (.iload_n 2, 1) := by decide +kernel
theorem d_Bk_add_29 : decode b_Bk_add 29 = .ok (.iastore, 1) := by decide +kernel
theorem d_Bk_add_30 : decode b_Bk_add 30 = .ok (.aload_n 0, 1) := by decide +kernel
theorem d_Bk_add_31 : decode b_Bk_add 31 = .ok (.getfield 18, 3) := by decide +kernel
theorem d_Bk_add_34 : decode b_Bk_add 34 = .ok (.aload_n 0, 1) := by decide +kernel
theorem d_Bk_add_35 : decode b_Bk_add 35 = .ok (.getfield 21, 3) := by decide +kernel
theorem d_Bk_add_38 : decode b_Bk_add 38 = .ok (.iload_n 3, 1) := by decide +kernel
theorem d_Bk_add_39 : decode b_Bk_add 39 = .ok (.iastore, 1) := by decide +kernel
theorem d_Bk_add_40 : decode b_Bk_add 40 = .ok (.aload_n 0, 1) := by decide +kernel
theorem d_Bk_add_41 : decode b_Bk_add 41 = .ok (.getfield 21, 3) := by decide +kernel
theorem d_Bk_add_44 : decode b_Bk_add 44 = .ok (.ireturn, 1) := by decide +kernel
def wp_Bk_has (z1 : MbkT) (x1 : Int32) (post : Int32 → MbkT → Prop) : Prop := ((x1 < (1 : Int32) → (post (0 : Int32) z1)) ∧ (¬ x1 < (1 : Int32) → (((mbk_count z1) < x1 → (post (0 : Int32) z1)) ∧ (¬ (mbk_count z1) < x1 → (post (1 : Int32) z1)))))
abbrev rm_Bk_has : Room := { frames := 0, cells := 0, slots := 0, locals := 0 }
def wp_Bk_isFull (z1 : MbkT) (post : Int32 → MbkT → Prop) : Prop := (((mbk_count z1) < (30 : Int32) → (post (0 : Int32) z1)) ∧ (¬ (mbk_count z1) < (30 : Int32) → (post (1 : Int32) z1)))
abbrev rm_Bk_isFull : Room := { frames := 0, cells := 0, slots := 0, locals := 0 }
def wp_Bk_add (z1 : MbkT) (x1 : Int32) (x2 : Int32) (x3 : Int32) (post : Int32 → MbkT → Prop) : Prop := (vp_in ((mbk_count z1) + (1 : Int32)) 31 ∧ (vp_in ((mbk_count z1) + (1 : Int32)) 31 ∧ (vp_in ((mbk_count z1) + (1 : Int32)) 31 ∧ (post ((mbk_count z1) + (1 : Int32)) (mbk_s_numbers (mbk_s_keys (mbk_s_kinds (mbk_s_count z1 ((mbk_count z1) + (1 : Int32))) (upd (mbk_kinds z1) (((mbk_count z1) + (1 : Int32))).toNatClampNeg x1)) (upd (mbk_keys z1) (((mbk_count z1) + (1 : Int32))).toNatClampNeg x2)) (upd (mbk_numbers z1) (((mbk_count z1) + (1 : Int32))).toNatClampNeg x3))))))
abbrev rm_Bk_add : Room := { frames := 0, cells := 0, slots := 0, locals := 0 }
set_option maxHeartbeats 4000000 in
set_option maxRecDepth 100000 in
theorem c_Bk_has (l : Launch) (D : va_G) (cI cN cZ : ClassId) (a1 : Nat → Nat) (z1 : MbkT) (x1 : Int32) (post : Int32 → MbkT → Prop) (hw : wp_Bk_has z1 x1 post) : km_I l y_Bk_has (.code y_Bk_has b_Bk_has 2 (some .boolean) :: kmW) rm_Bk_has D kmC (kmT cI cN cZ) kmF kmM [.ref (a1 0), .int x1] (mbkW cI cN cZ a1 z1) (fun (r : Int32) (u : MbkT) => post r u) (fun (u : MbkT) => (mbkW cI cN cZ a1 u)) 0 0 := by
  refine km_startI (cc := b_Bk_has) (maxL := 2) (ret := (some .boolean)) (by decide) rfl (Nat.le_of_ble_eq_true rfl) ?_
  intro p e s m below meth c A ls hE hA hK hP hD hS hl
  obtain ⟨hx, hb, hr, hml, hown, hts0, hlk, hnm⟩ := id hE
  have hts : ∀ w ∈ kmW, w.before ([.ref (a1 0), .int x1] : List Value).toArray s = true := fun w h => hts0 w (List.mem_cons_of_mem _ h)
  have hP : va_P D kmC (mbkW cI cN cZ a1 z1) s.heap := hP
  have hl : lv_has ls 2 [(0, .ref (a1 0)), (1, .int x1)] := hl
  unfold wp_Bk_has at hw
  refine lv_iload_n hx hb d_Bk_has_0 rfl (lv_at hl 1 rfl) ?_
  refine lv_iconst (v := (1 : Int32)) hx hb d_Bk_has_1 (by decide) ?_
  refine lv_icmp_lt (tgt := 17) hx hb d_Bk_has_2 (by first | rfl | decide) (fun h1 => ?_) (fun h1 => ?_)
  · have hw := hw.1 h1
    refine lv_iconst (v := (0 : Int32)) hx hb d_Bk_has_17 (by decide) ?_
    exact W.zret (ty := .boolean) (v := (0 : Int32)) hx hb hr (by decide) (fun t ht hW => ⟨⟨(0 : Int32), z1, rfl, hw, by rw [ht]; exact hP, hD⟩, hS.F ht⟩) hS.2.2 d_Bk_has_18
  · have hw := hw.2 h1
    refine lv_iload_n hx hb d_Bk_has_5 rfl (lv_at hl 1 rfl) ?_
    refine lv_aload_n hx hb d_Bk_has_6 rfl (lv_at hl 0 rfl) ?_
    refine va_get (D := D) (ci := 3) (v := .int (mbk_count z1)) (C := R_Bk) (T := F_Bk) (N := 4) hx hb hts iw_Bk hown hK.1 hP 0 rfl rfl 3 (by decide) (hts _ mw_168) (fun _ h => h) rfl d_Bk_has_7 ?_
    refine lv_icmp_gt (tgt := 17) hx hb d_Bk_has_10 (by first | rfl | decide) (fun h2 => ?_) (fun h2 => ?_)
    · have hw := hw.1 h2
      refine lv_iconst (v := (0 : Int32)) hx hb d_Bk_has_17 (by decide) ?_
      exact W.zret (ty := .boolean) (v := (0 : Int32)) hx hb hr (by decide) (fun t ht hW => ⟨⟨(0 : Int32), z1, rfl, hw, by rw [ht]; exact hP, hD⟩, hS.F ht⟩) hS.2.2 d_Bk_has_18
    · have hw := hw.2 h2
      refine lv_iconst (v := (1 : Int32)) hx hb d_Bk_has_13 (by decide) ?_
      refine lv_goto (tgt := 18) hx hb d_Bk_has_14 (by first | rfl | decide) ?_
      exact W.zret (ty := .boolean) (v := (1 : Int32)) hx hb hr (by decide) (fun t ht hW => ⟨⟨(1 : Int32), z1, rfl, hw, by rw [ht]; exact hP, hD⟩, hS.F ht⟩) hS.2.2 d_Bk_has_18
set_option maxHeartbeats 4000000 in
set_option maxRecDepth 100000 in
theorem c_Bk_isFull (l : Launch) (D : va_G) (cI cN cZ : ClassId) (a1 : Nat → Nat) (z1 : MbkT) (post : Int32 → MbkT → Prop) (hw : wp_Bk_isFull z1 post) : km_I l y_Bk_isFull (.code y_Bk_isFull b_Bk_isFull 1 (some .boolean) :: kmW) rm_Bk_isFull D kmC (kmT cI cN cZ) kmF kmM [.ref (a1 0)] (mbkW cI cN cZ a1 z1) (fun (r : Int32) (u : MbkT) => post r u) (fun (u : MbkT) => (mbkW cI cN cZ a1 u)) 0 0 := by
  refine km_startI (cc := b_Bk_isFull) (maxL := 1) (ret := (some .boolean)) (by decide) rfl (Nat.le_of_ble_eq_true rfl) ?_
  intro p e s m below meth c A ls hE hA hK hP hD hS hl
  obtain ⟨hx, hb, hr, hml, hown, hts0, hlk, hnm⟩ := id hE
  have hts : ∀ w ∈ kmW, w.before ([.ref (a1 0)] : List Value).toArray s = true := fun w h => hts0 w (List.mem_cons_of_mem _ h)
  have hP : va_P D kmC (mbkW cI cN cZ a1 z1) s.heap := hP
  have hl : lv_has ls 1 [(0, .ref (a1 0))] := hl
  unfold wp_Bk_isFull at hw
  refine lv_aload_n hx hb d_Bk_isFull_0 rfl (lv_at hl 0 rfl) ?_
  refine va_get (D := D) (ci := 3) (v := .int (mbk_count z1)) (C := R_Bk) (T := F_Bk) (N := 4) hx hb hts iw_Bk hown hK.1 hP 0 rfl rfl 3 (by decide) (hts _ mw_168) (fun _ h => h) rfl d_Bk_isFull_1 ?_
  refine lv_bipush (v := (30 : Int32)) hx hb d_Bk_isFull_4 (by decide) ?_
  refine lv_icmp_lt (tgt := 13) hx hb d_Bk_isFull_6 (by first | rfl | decide) (fun h1 => ?_) (fun h1 => ?_)
  · have hw := hw.1 h1
    refine lv_iconst (v := (0 : Int32)) hx hb d_Bk_isFull_13 (by decide) ?_
    exact W.zret (ty := .boolean) (v := (0 : Int32)) hx hb hr (by decide) (fun t ht hW => ⟨⟨(0 : Int32), z1, rfl, hw, by rw [ht]; exact hP, hD⟩, hS.F ht⟩) hS.2.2 d_Bk_isFull_14
  · have hw := hw.2 h1
    refine lv_iconst (v := (1 : Int32)) hx hb d_Bk_isFull_9 (by decide) ?_
    refine lv_goto (tgt := 14) hx hb d_Bk_isFull_10 (by first | rfl | decide) ?_
    exact W.zret (ty := .boolean) (v := (1 : Int32)) hx hb hr (by decide) (fun t ht hW => ⟨⟨(1 : Int32), z1, rfl, hw, by rw [ht]; exact hP, hD⟩, hS.F ht⟩) hS.2.2 d_Bk_isFull_14
set_option maxHeartbeats 4000000 in
set_option maxRecDepth 100000 in
theorem c_Bk_add (l : Launch) (D : va_G) (cI cN cZ : ClassId) (a1 : Nat → Nat) (z1 : MbkT) (x1 : Int32) (x2 : Int32) (x3 : Int32) (post : Int32 → MbkT → Prop) (hw : wp_Bk_add z1 x1 x2 x3 post) : km_I l y_Bk_add (.code y_Bk_add b_Bk_add 4 (some .int) :: kmW) rm_Bk_add D kmC (kmT cI cN cZ) kmF kmM [.ref (a1 0), .int x1, .int x2, .int x3] (mbkW cI cN cZ a1 z1) (fun (r : Int32) (u : MbkT) => post r u) (fun (u : MbkT) => (mbkW cI cN cZ a1 u)) 0 0 := by
  refine km_startI (cc := b_Bk_add) (maxL := 4) (ret := (some .int)) (by decide) rfl (Nat.le_of_ble_eq_true rfl) ?_
  intro p e s m below meth c A ls hE hA hK hP hD hS hl
  obtain ⟨hx, hb, hr, hml, hown, hts0, hlk, hnm⟩ := id hE
  have hts : ∀ w ∈ kmW, w.before ([.ref (a1 0), .int x1, .int x2, .int x3] : List Value).toArray s = true := fun w h => hts0 w (List.mem_cons_of_mem _ h)
  have hP : va_P D kmC (mbkW cI cN cZ a1 z1) s.heap := hP
  have hl : lv_has ls 4 [(0, .ref (a1 0)), (1, .int x1), (2, .int x2), (3, .int x3)] := hl
  unfold wp_Bk_add at hw
  refine lv_aload_n hx hb d_Bk_add_0 rfl (lv_at hl 0 rfl) ?_
  refine lv_dup hx hb d_Bk_add_1 rfl ?_
  refine va_get (D := D) (ci := 3) (v := .int (mbk_count z1)) (C := R_Bk) (T := F_Bk) (N := 4) hx hb hts iw_Bk hown hK.1 hP 0 rfl rfl 3 (by decide) (hts _ mw_168) (fun _ h => h) rfl d_Bk_add_2 ?_
  refine lv_iconst (v := (1 : Int32)) hx hb d_Bk_add_5 (by decide) ?_
  refine lv_iadd hx hb d_Bk_add_6 ?_
  refine va_put (D := D) (ci := 3) (v := .int ((mbk_count z1) + (1 : Int32))) (ty := .int) (C := R_Bk) (T := F_Bk) (N := 4) hx hb hts iw_Bk t_Bk t_Bk_ok n_Bk hown hK.1 hP hD hS 0 rfl rfl 3 (by decide) (hts _ mw_168) (fun _ h => h) rfl (t_Bk_ok 3 (by decide)) rfl rfl (Nat.le_of_ble_eq_true rfl) d_Bk_add_7 (fun H locs hP hD hS => ?_)
  have hP : va_P D kmC (mbkW cI cN cZ a1 (mbk_s_count z1 ((mbk_count z1) + (1 : Int32)))) H := hP
  have hD : va_D A (mbkW cI cN cZ a1 (mbk_s_count z1 ((mbk_count z1) + (1 : Int32)))) := hD
  refine lv_aload_n hx hb d_Bk_add_10 rfl (lv_at hl 0 rfl) ?_
  refine va_get (D := D) (ci := 3) (v := .ref (a1 1)) (C := R_Bk) (T := F_Bk) (N := 4) hx hb hts iw_Bk hown hK.1 hP 0 rfl rfl 0 (by decide) (hts _ mw_162) (fun _ h => h) rfl d_Bk_add_11 ?_
  refine lv_aload_n hx hb d_Bk_add_14 rfl (lv_at hl 0 rfl) ?_
  refine va_get (D := D) (ci := 3) (v := .int ((mbk_count z1) + (1 : Int32))) (C := R_Bk) (T := F_Bk) (N := 4) hx hb hts iw_Bk hown hK.1 hP 0 rfl rfl 3 (by decide) (hts _ mw_168) (fun _ h => h) rfl d_Bk_add_15 ?_
  refine lv_iload_n hx hb d_Bk_add_18 rfl (lv_at hl 1 rfl) ?_
  obtain ⟨hin, hw⟩ := hw
  refine va_iast (f := (mbk_kinds z1)) hx hb hK.1 hP hD hS 1 0 rfl rfl hin d_Bk_add_19 (fun H locs hP hD hS => ?_)
  have hP : va_P D kmC (mbkW cI cN cZ a1 (mbk_s_kinds (mbk_s_count z1 ((mbk_count z1) + (1 : Int32))) (upd (mbk_kinds z1) (((mbk_count z1) + (1 : Int32))).toNatClampNeg x1))) H := hP
  have hD : va_D A (mbkW cI cN cZ a1 (mbk_s_kinds (mbk_s_count z1 ((mbk_count z1) + (1 : Int32))) (upd (mbk_kinds z1) (((mbk_count z1) + (1 : Int32))).toNatClampNeg x1))) := hD
  refine lv_aload_n hx hb d_Bk_add_20 rfl (lv_at hl 0 rfl) ?_
  refine va_get (D := D) (ci := 3) (v := .ref (a1 2)) (C := R_Bk) (T := F_Bk) (N := 4) hx hb hts iw_Bk hown hK.1 hP 0 rfl rfl 1 (by decide) (hts _ mw_164) (fun _ h => h) rfl d_Bk_add_21 ?_
  refine lv_aload_n hx hb d_Bk_add_24 rfl (lv_at hl 0 rfl) ?_
  refine va_get (D := D) (ci := 3) (v := .int ((mbk_count z1) + (1 : Int32))) (C := R_Bk) (T := F_Bk) (N := 4) hx hb hts iw_Bk hown hK.1 hP 0 rfl rfl 3 (by decide) (hts _ mw_168) (fun _ h => h) rfl d_Bk_add_25 ?_
  refine lv_iload_n hx hb d_Bk_add_28 rfl (lv_at hl 2 rfl) ?_
  obtain ⟨hin, hw⟩ := hw
  refine va_iast (f := (mbk_keys z1)) hx hb hK.1 hP hD hS 2 0 rfl rfl hin d_Bk_add_29 (fun H locs hP hD hS => ?_)
  have hP : va_P D kmC (mbkW cI cN cZ a1 (mbk_s_keys (mbk_s_kinds (mbk_s_count z1 ((mbk_count z1) + (1 : Int32))) (upd (mbk_kinds z1) (((mbk_count z1) + (1 : Int32))).toNatClampNeg x1)) (upd (mbk_keys z1) (((mbk_count z1) + (1 : Int32))).toNatClampNeg x2))) H := hP
  have hD : va_D A (mbkW cI cN cZ a1 (mbk_s_keys (mbk_s_kinds (mbk_s_count z1 ((mbk_count z1) + (1 : Int32))) (upd (mbk_kinds z1) (((mbk_count z1) + (1 : Int32))).toNatClampNeg x1)) (upd (mbk_keys z1) (((mbk_count z1) + (1 : Int32))).toNatClampNeg x2))) := hD
  refine lv_aload_n hx hb d_Bk_add_30 rfl (lv_at hl 0 rfl) ?_
  refine va_get (D := D) (ci := 3) (v := .ref (a1 3)) (C := R_Bk) (T := F_Bk) (N := 4) hx hb hts iw_Bk hown hK.1 hP 0 rfl rfl 2 (by decide) (hts _ mw_166) (fun _ h => h) rfl d_Bk_add_31 ?_
  refine lv_aload_n hx hb d_Bk_add_34 rfl (lv_at hl 0 rfl) ?_
  refine va_get (D := D) (ci := 3) (v := .int ((mbk_count z1) + (1 : Int32))) (C := R_Bk) (T := F_Bk) (N := 4) hx hb hts iw_Bk hown hK.1 hP 0 rfl rfl 3 (by decide) (hts _ mw_168) (fun _ h => h) rfl d_Bk_add_35 ?_
  refine lv_iload_n hx hb d_Bk_add_38 rfl (lv_at hl 3 rfl) ?_
  obtain ⟨hin, hw⟩ := hw
  refine va_iast (f := (mbk_numbers z1)) hx hb hK.1 hP hD hS 3 0 rfl rfl hin d_Bk_add_39 (fun H locs hP hD hS => ?_)
  have hP : va_P D kmC (mbkW cI cN cZ a1 (mbk_s_numbers (mbk_s_keys (mbk_s_kinds (mbk_s_count z1 ((mbk_count z1) + (1 : Int32))) (upd (mbk_kinds z1) (((mbk_count z1) + (1 : Int32))).toNatClampNeg x1)) (upd (mbk_keys z1) (((mbk_count z1) + (1 : Int32))).toNatClampNeg x2)) (upd (mbk_numbers z1) (((mbk_count z1) + (1 : Int32))).toNatClampNeg x3))) H := hP
  have hD : va_D A (mbkW cI cN cZ a1 (mbk_s_numbers (mbk_s_keys (mbk_s_kinds (mbk_s_count z1 ((mbk_count z1) + (1 : Int32))) (upd (mbk_kinds z1) (((mbk_count z1) + (1 : Int32))).toNatClampNeg x1)) (upd (mbk_keys z1) (((mbk_count z1) + (1 : Int32))).toNatClampNeg x2)) (upd (mbk_numbers z1) (((mbk_count z1) + (1 : Int32))).toNatClampNeg x3))) := hD
  refine lv_aload_n hx hb d_Bk_add_40 rfl (lv_at hl 0 rfl) ?_
  refine va_get (D := D) (ci := 3) (v := .int ((mbk_count z1) + (1 : Int32))) (C := R_Bk) (T := F_Bk) (N := 4) hx hb hts iw_Bk hown hK.1 hP 0 rfl rfl 3 (by decide) (hts _ mw_168) (fun _ h => h) rfl d_Bk_add_41 ?_
  exact W.iret (v := ((mbk_count z1) + (1 : Int32))) hx hb hr (fun t ht hW => ⟨⟨((mbk_count z1) + (1 : Int32)), (mbk_s_numbers (mbk_s_keys (mbk_s_kinds (mbk_s_count z1 ((mbk_count z1) + (1 : Int32))) (upd (mbk_kinds z1) (((mbk_count z1) + (1 : Int32))).toNatClampNeg x1)) (upd (mbk_keys z1) (((mbk_count z1) + (1 : Int32))).toNatClampNeg x2)) (upd (mbk_numbers z1) (((mbk_count z1) + (1 : Int32))).toNatClampNeg x3)), rfl, hw, by rw [ht]; exact hP, hD⟩, hS.F ht⟩) hS.2.2 d_Bk_add_44
