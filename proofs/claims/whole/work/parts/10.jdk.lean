theorem d_Ji_bitCount_0 : decode b_Ji_bitCount 0 = .ok (.iload_n 0, 1) := by decide +kernel
theorem d_Ji_bitCount_1 : decode b_Ji_bitCount 1 = .ok (.iload_n 0, 1) := by decide +kernel
theorem d_Ji_bitCount_2 : decode b_Ji_bitCount 2 = .ok (.iconst 1, 1) := by decide +kernel
theorem d_Ji_bitCount_3 : decode b_Ji_bitCount 3 = .ok (.iushr, 1) := by decide +kernel
theorem d_Ji_bitCount_4 : decode b_Ji_bitCount 4 = .ok (.ldc_w 265, 3) := by decide +kernel
theorem d_Ji_bitCount_7 : decode b_Ji_bitCount 7 = .ok (.iand, 1) := by decide +kernel
theorem d_Ji_bitCount_8 : decode b_Ji_bitCount 8 = .ok (.isub, 1) := by decide +kernel
theorem d_Ji_bitCount_9 : decode b_Ji_bitCount 9 = .ok (.istore_n 0, 1) := by decide +kernel
theorem d_Ji_bitCount_10 : decode b_Ji_bitCount 10 = .ok (.iload_n 0, 1) := by decide +kernel
theorem d_Ji_bitCount_11 : decode b_Ji_bitCount 11 = .ok (.ldc_w 266, 3) := by decide +kernel
theorem d_Ji_bitCount_14 : decode b_Ji_bitCount 14 = .ok (.iand, 1) := by decide +kernel
theorem d_Ji_bitCount_15 : decode b_Ji_bitCount 15 = .ok (.iload_n 0, 1) := by decide +kernel
theorem d_Ji_bitCount_16 : decode b_Ji_bitCount 16 = .ok (.iconst 2, 1) := by decide +kernel
theorem d_Ji_bitCount_17 : decode b_Ji_bitCount 17 = .ok (.iushr, 1) := by decide +kernel
theorem d_Ji_bitCount_18 : decode b_Ji_bitCount 18 = .ok (.ldc_w 266, 3) := by decide +kernel
theorem d_Ji_bitCount_21 : decode b_Ji_bitCount 21 = .ok (.iand, 1) := by decide +kernel
theorem d_Ji_bitCount_22 : decode b_Ji_bitCount 22 = .ok (.iadd, 1) := by decide +kernel
theorem d_Ji_bitCount_23 : decode b_Ji_bitCount 23 = .ok (.istore_n 0, 1) := by decide +kernel
theorem d_Ji_bitCount_24 : decode b_Ji_bitCount 24 = .ok (.iload_n 0, 1) := by decide +kernel
theorem d_Ji_bitCount_25 : decode b_Ji_bitCount 25 = .ok (.iload_n 0, 1) := by decide +kernel
theorem d_Ji_bitCount_26 : decode b_Ji_bitCount 26 = .ok (.iconst 4, 1) := by decide +kernel
theorem d_Ji_bitCount_27 : decode b_Ji_bitCount 27 = .ok (.iushr, 1) := by decide +kernel
theorem d_Ji_bitCount_28 : decode b_Ji_bitCount 28 = .ok (.iadd, 1) := by decide +kernel
theorem d_Ji_bitCount_29 : decode b_Ji_bitCount 29 = .ok (.ldc_w 267, 3) := by decide +kernel
theorem d_Ji_bitCount_32 : decode b_Ji_bitCount 32 = .ok (.iand, 1) := by decide +kernel
theorem d_Ji_bitCount_33 : decode b_Ji_bitCount 33 = .ok (.istore_n 0, 1) := by decide +kernel
theorem d_Ji_bitCount_34 : decode b_Ji_bitCount 34 = .ok (.iload_n 0, 1) := by decide +kernel
theorem d_Ji_bitCount_35 : decode b_Ji_bitCount 35 = .ok (.iload_n 0, 1) := by decide +kernel
theorem d_Ji_bitCount_36 : decode b_Ji_bitCount 36 = .ok (.bipush 8, 2) := by decide +kernel
theorem d_Ji_bitCount_38 : decode b_Ji_bitCount 38 = .ok (.iushr, 1) := by decide +kernel
theorem d_Ji_bitCount_39 : decode b_Ji_bitCount 39 = .ok (.iadd, 1) := by decide +kernel
theorem d_Ji_bitCount_40 : decode b_Ji_bitCount 40 = .ok (.istore_n 0, 1) := by decide +kernel
theorem d_Ji_bitCount_41 : decode b_Ji_bitCount 41 = .ok (.iload_n 0, 1) := by decide +kernel
theorem d_Ji_bitCount_42 : decode b_Ji_bitCount 42 = .ok (.iload_n 0, 1) := by decide +kernel
theorem d_Ji_bitCount_43 : decode b_Ji_bitCount 43 = .ok (.bipush 16, 2) := by decide +kernel
theorem d_Ji_bitCount_45 : decode b_Ji_bitCount 45 = .ok (.iushr, 1) := by decide +kernel
theorem d_Ji_bitCount_46 : decode b_Ji_bitCount 46 = .ok (.iadd, 1) := by decide +kernel
theorem d_Ji_bitCount_47 : decode b_Ji_bitCount 47 = .ok (.istore_n 0, 1) := by decide +kernel
theorem d_Ji_bitCount_48 : decode b_Ji_bitCount 48 = .ok (.iload_n 0, 1) := by decide +kernel
theorem d_Ji_bitCount_49 : decode b_Ji_bitCount 49 = .ok (.bipush 63, 2) := by decide +kernel
theorem d_Ji_bitCount_51 : decode b_Ji_bitCount 51 = .ok (.iand, 1) := by decide +kernel
theorem d_Ji_bitCount_52 : decode b_Ji_bitCount 52 = .ok (.ireturn, 1) := by decide +kernel
theorem d_Ja_fill_0 : decode b_Ja_fill 0 = .ok (.iconst 0, 1) := by decide +kernel
theorem d_Ja_fill_1 : decode b_Ja_fill 1 = .ok (.istore_n 2, 1) := by decide +kernel
theorem d_Ja_fill_2 : decode b_Ja_fill 2 = .ok (.aload_n 0, 1) := by decide +kernel
theorem d_Ja_fill_3 : decode b_Ja_fill 3 = .ok (.arraylength, 1) := by decide +kernel
theorem d_Ja_fill_4 : decode b_Ja_fill 4 = .ok (.istore_n 3, 1) := by decide +kernel
theorem d_Ja_fill_5 : decode b_Ja_fill 5 = .ok (.iload_n 2, 1) := by decide +kernel
theorem d_Ja_fill_6 : decode b_Ja_fill 6 = .ok (.iload_n 3, 1) := by decide +kernel
theorem d_Ja_fill_7 : decode b_Ja_fill 7 = .ok (.if_icmp .ge 13, 3) := by decide +kernel
theorem d_Ja_fill_10 : decode b_Ja_fill 10 = .ok (.aload_n 0, 1) := by decide +kernel
theorem d_Ja_fill_11 : decode b_Ja_fill 11 = .ok (.iload_n 2, 1) := by decide +kernel
theorem d_Ja_fill_12 : decode b_Ja_fill 12 = .ok (.iload_n 1, 1) := by decide +kernel
theorem d_Ja_fill_13 : decode b_Ja_fill 13 = .ok (.iastore, 1) := by decide +kernel
theorem d_Ja_fill_14 : decode b_Ja_fill 14 = .ok (.iinc 2 1, 3) := by decide +kernel
theorem d_Ja_fill_17 : decode b_Ja_fill 17 = .ok (.goto (-12), 3) := by decide +kernel
theorem d_Ja_fill_20 : decode b_Ja_fill 20 = .ok (.return_, 1) := by decide +kernel
def wp_Ji_bitCount (x1 : Int32) (post : Int32 → Prop) : Prop := (∀ v1 : Int32, v1 = (x1 - ((((x1).toUInt32 >>> (((1 : Int32)).toUInt32 &&& Int32.toUInt32 31)).toInt32) &&& (1431655765 : Int32))) → (∀ v2 : Int32, v2 = ((v1 &&& (858993459 : Int32)) + ((((v1).toUInt32 >>> (((2 : Int32)).toUInt32 &&& Int32.toUInt32 31)).toInt32) &&& (858993459 : Int32))) → (∀ v3 : Int32, v3 = ((v2 + (((v2).toUInt32 >>> (((4 : Int32)).toUInt32 &&& Int32.toUInt32 31)).toInt32)) &&& (252645135 : Int32)) → (∀ v4 : Int32, v4 = (v3 + (((v3).toUInt32 >>> (((8 : Int32)).toUInt32 &&& Int32.toUInt32 31)).toInt32)) → (∀ v5 : Int32, v5 = (v4 + (((v4).toUInt32 >>> (((16 : Int32)).toUInt32 &&& Int32.toUInt32 31)).toInt32)) → (post (v5 &&& (63 : Int32))))))))
abbrev rm_Ji_bitCount : Room := { frames := 0, cells := 0, slots := 0, locals := 0 }
def wp_Ja_fill_L5 (K5 : Int32 → Int32 → Int32 → (Nat → Int32) → Prop) : Nat → Int32 → Int32 → Int32 → (Nat → Int32) → Prop
  | 0, _, _, _, _ => False
  | n5 + 1, y1, y2, y3, z1 => ((y3 ≤ y2 → K5 y1 y2 y3 z1) ∧ (¬ y3 ≤ y2 → (vp_in y2 9 ∧ (∀ v2 : Int32, v2 = (y2 + (1 : Int32)) → wp_Ja_fill_L5 K5 n5 y1 v2 y3 (upd z1 (y2).toNatClampNeg y1)))))
def wp_Ja_fill (z1 : (Nat → Int32)) (x1 : Int32) (post : (Nat → Int32) → Prop) : Prop := (∃ n5 : Nat, wp_Ja_fill_L5 (fun (y1 : Int32) (y2 : Int32) (y3 : Int32) (z1 : (Nat → Int32)) => (post z1)) n5 x1 (0 : Int32) (9 : Int32) z1)
abbrev rm_Ja_fill : Room := { frames := 0, cells := 0, slots := 0, locals := 0 }
set_option maxHeartbeats 4000000 in
set_option maxRecDepth 100000 in
theorem c_Ji_bitCount (l : Launch) (D : va_G) (cI cN cZ : ClassId) (x1 : Int32) (post : Int32 → Prop) (hw : wp_Ji_bitCount x1 post) : km_I l y_Ji_bitCount (.code y_Ji_bitCount b_Ji_bitCount 1 (some .int) :: kmW) rm_Ji_bitCount D kmC (kmT cI cN cZ) kmF kmM [.int x1] ([] : va_W) (fun (r : Int32) (u : Unit) => post r) (fun (u : Unit) => ([] : va_W)) 0 0 := by
  refine km_startI (cc := b_Ji_bitCount) (maxL := 1) (ret := (some .int)) (by decide) rfl (Nat.le_of_ble_eq_true rfl) ?_
  intro p e s m below meth c A ls hE hA hK hP hD hS hl
  obtain ⟨hx, hb, hr, hml, hown, hts0, hlk, hnm⟩ := id hE
  have hts : ∀ w ∈ kmW, w.before ([.int x1] : List Value).toArray s = true := fun w h => hts0 w (List.mem_cons_of_mem _ h)
  have hP : va_P D kmC ([] : va_W) s.heap := hP
  have hl : lv_has ls 1 [(0, .int x1)] := hl
  unfold wp_Ji_bitCount at hw
  refine lv_iload_n hx hb d_Ji_bitCount_0 rfl (lv_at hl 0 rfl) ?_
  refine lv_iload_n hx hb d_Ji_bitCount_1 rfl (lv_at hl 0 rfl) ?_
  refine lv_iconst (v := (1 : Int32)) hx hb d_Ji_bitCount_2 (by decide) ?_
  refine lv_iushr (v := (((x1).toUInt32 >>> (((1 : Int32)).toUInt32 &&& Int32.toUInt32 31)).toInt32)) hx hb d_Ji_bitCount_3 rfl ?_
  refine lv_ldcw (v := (1431655765 : Int32)) hx hb hown (hts _ mw_207) d_Ji_bitCount_4 ?_
  refine lv_iand hx hb d_Ji_bitCount_7 ?_
  refine lv_isub hx hb d_Ji_bitCount_8 ?_
  refine lv_topi (fun v1 ev1 => ?_)
  have hw := hw v1 ev1
  refine lv_istore_n (lv' := [(0, .int v1)]) hx hb d_Ji_bitCount_9 rfl hl (by decide) rfl (fun ls hl => ?_)
  refine lv_iload_n hx hb d_Ji_bitCount_10 rfl (lv_at hl 0 rfl) ?_
  refine lv_ldcw (v := (858993459 : Int32)) hx hb hown (hts _ mw_208) d_Ji_bitCount_11 ?_
  refine lv_iand hx hb d_Ji_bitCount_14 ?_
  refine lv_iload_n hx hb d_Ji_bitCount_15 rfl (lv_at hl 0 rfl) ?_
  refine lv_iconst (v := (2 : Int32)) hx hb d_Ji_bitCount_16 (by decide) ?_
  refine lv_iushr (v := (((v1).toUInt32 >>> (((2 : Int32)).toUInt32 &&& Int32.toUInt32 31)).toInt32)) hx hb d_Ji_bitCount_17 rfl ?_
  refine lv_ldcw (v := (858993459 : Int32)) hx hb hown (hts _ mw_208) d_Ji_bitCount_18 ?_
  refine lv_iand hx hb d_Ji_bitCount_21 ?_
  refine lv_iadd hx hb d_Ji_bitCount_22 ?_
  refine lv_topi (fun v2 ev2 => ?_)
  have hw := hw v2 ev2
  refine lv_istore_n (lv' := [(0, .int v2)]) hx hb d_Ji_bitCount_23 rfl hl (by decide) rfl (fun ls hl => ?_)
  refine lv_iload_n hx hb d_Ji_bitCount_24 rfl (lv_at hl 0 rfl) ?_
  refine lv_iload_n hx hb d_Ji_bitCount_25 rfl (lv_at hl 0 rfl) ?_
  refine lv_iconst (v := (4 : Int32)) hx hb d_Ji_bitCount_26 (by decide) ?_
  refine lv_iushr (v := (((v2).toUInt32 >>> (((4 : Int32)).toUInt32 &&& Int32.toUInt32 31)).toInt32)) hx hb d_Ji_bitCount_27 rfl ?_
  refine lv_iadd hx hb d_Ji_bitCount_28 ?_
  refine lv_ldcw (v := (252645135 : Int32)) hx hb hown (hts _ mw_209) d_Ji_bitCount_29 ?_
  refine lv_iand hx hb d_Ji_bitCount_32 ?_
  refine lv_topi (fun v3 ev3 => ?_)
  have hw := hw v3 ev3
  refine lv_istore_n (lv' := [(0, .int v3)]) hx hb d_Ji_bitCount_33 rfl hl (by decide) rfl (fun ls hl => ?_)
  refine lv_iload_n hx hb d_Ji_bitCount_34 rfl (lv_at hl 0 rfl) ?_
  refine lv_iload_n hx hb d_Ji_bitCount_35 rfl (lv_at hl 0 rfl) ?_
  refine lv_bipush (v := (8 : Int32)) hx hb d_Ji_bitCount_36 (by decide) ?_
  refine lv_iushr (v := (((v3).toUInt32 >>> (((8 : Int32)).toUInt32 &&& Int32.toUInt32 31)).toInt32)) hx hb d_Ji_bitCount_38 rfl ?_
  refine lv_iadd hx hb d_Ji_bitCount_39 ?_
  refine lv_topi (fun v4 ev4 => ?_)
  have hw := hw v4 ev4
  refine lv_istore_n (lv' := [(0, .int v4)]) hx hb d_Ji_bitCount_40 rfl hl (by decide) rfl (fun ls hl => ?_)
  refine lv_iload_n hx hb d_Ji_bitCount_41 rfl (lv_at hl 0 rfl) ?_
  refine lv_iload_n hx hb d_Ji_bitCount_42 rfl (lv_at hl 0 rfl) ?_
  refine lv_bipush (v := (16 : Int32)) hx hb d_Ji_bitCount_43 (by decide) ?_
  refine lv_iushr (v := (((v4).toUInt32 >>> (((16 : Int32)).toUInt32 &&& Int32.toUInt32 31)).toInt32)) hx hb d_Ji_bitCount_45 rfl ?_
  refine lv_iadd hx hb d_Ji_bitCount_46 ?_
  refine lv_topi (fun v5 ev5 => ?_)
  have hw := hw v5 ev5
  refine lv_istore_n (lv' := [(0, .int v5)]) hx hb d_Ji_bitCount_47 rfl hl (by decide) rfl (fun ls hl => ?_)
  refine lv_iload_n hx hb d_Ji_bitCount_48 rfl (lv_at hl 0 rfl) ?_
  refine lv_bipush (v := (63 : Int32)) hx hb d_Ji_bitCount_49 (by decide) ?_
  refine lv_iand hx hb d_Ji_bitCount_51 ?_
  exact W.iret (v := (v5 &&& (63 : Int32))) hx hb hr (fun t ht hW => ⟨⟨(v5 &&& (63 : Int32)), (), rfl, hw, by rw [ht]; exact hP, hD⟩, hS.F ht⟩) hS.2.2 d_Ji_bitCount_52
set_option maxHeartbeats 4000000 in
set_option maxRecDepth 100000 in
theorem c_Ja_fill (l : Launch) (D : va_G) (cI cN cZ : ClassId) (a1 : Nat → Nat) (z1 : (Nat → Int32)) (x1 : Int32) (post : (Nat → Int32) → Prop) (hw : wp_Ja_fill z1 x1 post) : km_V l y_Ja_fill (.code y_Ja_fill b_Ja_fill 4 none :: kmW) rm_Ja_fill D kmC (kmT cI cN cZ) kmF kmM [.ref (a1 0), .int x1] (mkaW cI cN cZ a1 z1) (fun (u : (Nat → Int32)) => post u) (fun (u : (Nat → Int32)) => (mkaW cI cN cZ a1 u)) 0 0 := by
  refine km_startV (cc := b_Ja_fill) (maxL := 4) (ret := none) (by decide) rfl (Nat.le_of_ble_eq_true rfl) ?_
  intro p e s m below meth c A ls hE hA hK hP hD hS hl
  obtain ⟨hx, hb, hr, hml, hown, hts0, hlk, hnm⟩ := id hE
  have hts : ∀ w ∈ kmW, w.before ([.ref (a1 0), .int x1] : List Value).toArray s = true := fun w h => hts0 w (List.mem_cons_of_mem _ h)
  have hP : va_P D kmC (mkaW cI cN cZ a1 z1) s.heap := hP
  have hl : lv_has ls 4 [(0, .ref (a1 0)), (1, .int x1)] := hl
  unfold wp_Ja_fill at hw
  refine lv_iconst (v := (0 : Int32)) hx hb d_Ja_fill_0 (by decide) ?_
  refine lv_istore_n (lv' := [(2, .int (0 : Int32)), (0, .ref (a1 0)), (1, .int x1)]) hx hb d_Ja_fill_1 rfl hl (by decide) rfl (fun ls hl => ?_)
  refine lv_aload_n hx hb d_Ja_fill_2 rfl (lv_at hl 1 rfl) ?_
  refine va_alen (v := (9 : Int32)) hx hb hK.1 hP 0 0 rfl rfl rfl d_Ja_fill_3 ?_
  refine lv_istore_n (lv' := [(3, .int (9 : Int32)), (2, .int (0 : Int32)), (0, .ref (a1 0)), (1, .int x1)]) hx hb d_Ja_fill_4 rfl hl (by decide) rfl (fun ls hl => ?_)
  have key5 : ∀ (K5 : Int32 → Int32 → Int32 → (Nat → Int32) → Prop) (hk5 : ∀ (y1 : Int32) (y2 : Int32) (y3 : Int32) (z1 : (Nat → Int32)) (ls : Array Slot) (H : Heap) (locs : List Loc), K5 y1 y2 y3 z1 → lv_has ls 4 [(1, .int y1), (2, .int y2), (3, .int y3), (0, .ref (a1 0))] → va_P D kmC (mkaW cI cN cZ a1 z1) H → va_D A (mkaW cI cN cZ a1 z1) → va_S A s.heap H locs → W p l e rm_Ja_fill s m ([.ref (a1 0), .int x1] : List Value).toArray below meth c H locs 0 0 (MQ below (va_Qv (fun (u : (Nat → Int32)) => post u) (km_B D kmC A (fun (u : (Nat → Int32)) => (mkaW cI cN cZ a1 u))) A) ([.ref (a1 0), .int x1] : List Value).toArray s 0 0 A) (F0 m 20 ls [])) (n5 : Nat), ∀ (y1 : Int32) (y2 : Int32) (y3 : Int32) (z1 : (Nat → Int32)) (ls : Array Slot) (H : Heap) (locs : List Loc), wp_Ja_fill_L5 K5 n5 y1 y2 y3 z1 → lv_has ls 4 [(1, .int y1), (2, .int y2), (3, .int y3), (0, .ref (a1 0))] → va_P D kmC (mkaW cI cN cZ a1 z1) H → va_D A (mkaW cI cN cZ a1 z1) → va_S A s.heap H locs → W p l e rm_Ja_fill s m ([.ref (a1 0), .int x1] : List Value).toArray below meth c H locs 0 0 (MQ below (va_Qv (fun (u : (Nat → Int32)) => post u) (km_B D kmC A (fun (u : (Nat → Int32)) => (mkaW cI cN cZ a1 u))) A) ([.ref (a1 0), .int x1] : List Value).toArray s 0 0 A) (F0 m 5 ls []) := by
    intro K5 hk5 n5
    induction n5 with
    | zero => intro y1 y2 y3 z1 ls H locs hw; exact hw.elim
    | succ n5 ih5 =>
      intro y1 y2 y3 z1 ls H locs hw hl hP hD hS
      refine lv_iload_n hx hb d_Ja_fill_5 rfl (lv_at hl 1 rfl) ?_
      refine lv_iload_n hx hb d_Ja_fill_6 rfl (lv_at hl 2 rfl) ?_
      refine lv_icmp_ge (tgt := 20) hx hb d_Ja_fill_7 (by first | rfl | decide) (fun h1 => ?_) (fun h1 => ?_)
      · have hw := hw.1 h1
        exact hk5 y1 y2 y3 z1 ls H locs hw (lv_sub hl [0, 1, 2, 3] rfl) hP hD hS
      · have hw := hw.2 h1
        refine lv_aload_n hx hb d_Ja_fill_10 rfl (lv_at hl 3 rfl) ?_
        refine lv_iload_n hx hb d_Ja_fill_11 rfl (lv_at hl 1 rfl) ?_
        refine lv_iload_n hx hb d_Ja_fill_12 rfl (lv_at hl 0 rfl) ?_
        obtain ⟨hin, hw⟩ := hw
        refine va_iast (f := z1) hx hb hK.1 hP hD hS 0 0 rfl rfl hin d_Ja_fill_13 (fun H locs hP hD hS => ?_)
        have hP : va_P D kmC (mkaW cI cN cZ a1 (upd z1 (y2).toNatClampNeg y1)) H := hP
        have hD : va_D A (mkaW cI cN cZ a1 (upd z1 (y2).toNatClampNeg y1)) := hD
        obtain ⟨v2, ev2⟩ : ∃ z : Int32, z = (y2 + (1 : Int32)) := ⟨_, rfl⟩
        have hw := hw v2 ev2
        refine lv_iinc (v := v2) (lv' := [(2, .int v2), (1, .int y1), (3, .int y3), (0, .ref (a1 0))]) hx hb d_Ja_fill_14 hl (k := 1) rfl ev2.symm (by decide) rfl (fun ls hl => ?_)
        refine lv_goto (tgt := 5) hx hb d_Ja_fill_17 (by first | rfl | decide) ?_
        exact ih5 y1 v2 y3 (upd z1 (y2).toNatClampNeg y1) ls H locs hw (lv_sub hl [1, 0, 2, 3] rfl) hP hD hS
  obtain ⟨n5, hw⟩ := hw
  refine key5 _ (fun y1 y2 y3 z1 ls H locs hw hl hP hD hS => ?_) n5 x1 (0 : Int32) (9 : Int32) z1 ls s.heap [] hw (lv_sub hl [3, 1, 0, 2] rfl) hP hD hS
  exact W.vret hx hb hr (fun t ht hW => ⟨⟨z1, rfl, hw, by rw [ht]; exact hP, hD⟩, hS.F ht⟩) hS.2.2 d_Ja_fill_20
