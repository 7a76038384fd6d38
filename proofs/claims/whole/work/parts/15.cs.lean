theorem d_Ch_isNode_0 : decode b_Ch_isNode 0 = .ok (.iload_n 0, 1) := by decide +kernel
theorem d_Ch_isNode_1 : decode b_Ch_isNode 1 = .ok (.ifCond .lt 13, 3) := by decide +kernel
theorem d_Ch_isNode_4 : decode b_Ch_isNode 4 = .ok (.iload_n 0, 1) := by decide +kernel
theorem d_Ch_isNode_5 : decode b_Ch_isNode 5 = .ok (.bipush 6, 2) := by decide +kernel
theorem d_Ch_isNode_7 : decode b_Ch_isNode 7 = .ok (.if_icmp .ge 7, 3) := by decide +kernel
theorem d_Ch_isNode_10 : decode b_Ch_isNode 10 = .ok (.iconst 1, 1) := by decide +kernel
theorem d_Ch_isNode_11 : decode b_Ch_isNode 11 = .ok (.goto 4, 3) := by decide +kernel
theorem d_Ch_isNode_14 : decode b_Ch_isNode 14 = .ok (.iconst 0, 1) := by decide +kernel
theorem d_Ch_isNode_15 : decode b_Ch_isNode 15 = .ok (.ireturn, 1) := by decide +kernel
theorem d_Ch_isKey_0 : decode b_Ch_isKey 0 = .ok (.iload_n 0, 1) := by decide +kernel
theorem d_Ch_isKey_1 : decode b_Ch_isKey 1 = .ok (.ifCond .lt 12, 3) := by decide +kernel
theorem d_Ch_isKey_4 : decode b_Ch_isKey 4 = .ok (.iload_n 0, 1) := by decide +kernel
theorem d_Ch_isKey_5 : decode b_Ch_isKey 5 = .ok (.iconst 4, 1) := by decide +kernel
theorem d_Ch_isKey_6 : decode b_Ch_isKey 6 = .ok (.if_icmp .ge 7, 3) := by decide +kernel
theorem d_Ch_isKey_9 : decode b_Ch_isKey 9 = .ok (.iconst 1, 1) := by decide +kernel
theorem d_Ch_isKey_10 : decode b_Ch_isKey 10 = .ok (.goto 4, 3) := by decide +kernel
theorem d_Ch_isKey_13 : decode b_Ch_isKey 13 = .ok (.iconst 0, 1) := by decide +kernel
theorem d_Ch_isKey_14 : decode b_Ch_isKey 14 = .ok (.ireturn, 1) := by decide +kernel
theorem d_Ch_isConfiguration_0 : decode b_Ch_isConfiguration 0 = .ok (.iload_n 0, 1) := by decide +kernel
theorem d_Ch_isConfiguration_1 : decode b_Ch_isConfiguration 1 = .ok (.ifCond .lt 12, 3) := by decide +kernel
theorem d_Ch_isConfiguration_4 : decode b_Ch_isConfiguration 4 = .ok (.iload_n 0, 1) := by decide +kernel
theorem d_Ch_isConfiguration_5 : decode b_Ch_isConfiguration 5 = .ok (.iconst 5, 1) := by decide +kernel
theorem d_Ch_isConfiguration_6 : decode b_Ch_isConfiguration 6 = .ok (.if_icmp .ge 7, 3) := by decide +kernel
theorem d_Ch_isConfiguration_9 : decode b_Ch_isConfiguration 9 = .ok (.iconst 1, 1) := by decide +kernel
theorem d_Ch_isConfiguration_10 : decode b_Ch_isConfiguration 10 = .ok (.goto 4, 3) := by decide +kernel
theorem d_Ch_isConfiguration_13 : decode b_Ch_isConfiguration 13 = .ok (.iconst 0, 1) := by decide +kernel
theorem d_Ch_isConfiguration_14 : decode b_Ch_isConfiguration 14 = .ok (.ireturn, 1) := by decide +kernel
theorem d_Ch_isSlot_0 : decode b_Ch_isSlot 0 = .ok (.iload_n 0, 1) := by decide +kernel
theorem d_Ch_isSlot_1 : decode b_Ch_isSlot 1 = .ok (.iconst 1, 1) := by decide +kernel
theorem d_Ch_isSlot_2 : decode b_Ch_isSlot 2 = .ok (.if_icmp .lt 13, 3) := by decide +kernel
theorem d_Ch_isSlot_5 : decode b_Ch_isSlot 5 = .ok (.iload_n 0, 1) := by decide +kernel
theorem d_Ch_isSlot_6 : decode b_Ch_isSlot 6 = .ok (.bipush 8, 2) := by decide +kernel
theorem d_Ch_isSlot_8 : decode b_Ch_isSlot 8 = .ok (.if_icmp .gt 7, 3) := by decide +kernel
theorem d_Ch_isSlot_11 : decode b_Ch_isSlot 11 = .ok (.iconst 1, 1) := by decide +kernel
theorem d_Ch_isSlot_12 : decode b_Ch_isSlot 12 = .ok (.goto 4, 3) := by decide +kernel
theorem d_Ch_isSlot_15 : decode b_Ch_isSlot 15 = .ok (.iconst 0, 1) := by decide +kernel
theorem d_Ch_isSlot_16 : decode b_Ch_isSlot 16 = .ok (.ireturn, 1) := by decide +kernel
theorem d_Ch_isMembership_0 : decode b_Ch_isMembership 0 = .ok (.iload_n 0, 1) := by decide +kernel
theorem d_Ch_isMembership_1 : decode b_Ch_isMembership 1 = .ok (.ifCond .lt 9, 3) := by decide +kernel
theorem d_Ch_isMembership_4 : decode b_Ch_isMembership 4 = .ok (.iload_n 0, 1) := by decide +kernel
theorem d_Ch_isMembership_5 : decode b_Ch_isMembership 5 = .ok (.bipush 64, 2) := by decide +kernel
theorem d_Ch_isMembership_7 : decode b_Ch_isMembership 7 = .ok (.if_icmp .lt 5, 3) := by decide +kernel
theorem d_Ch_isMembership_10 : decode b_Ch_isMembership 10 = .ok (.iconst 0, 1) := by decide +kernel
theorem d_Ch_isMembership_11 : decode b_Ch_isMembership 11 = .ok (.ireturn, 1) := by decide +kernel
theorem d_Ch_isMembership_12 : decode b_Ch_isMembership 12 = .ok (.iload_n 0, 1) := by decide +kernel
theorem d_Ch_isMembership_13 : decode b_Ch_isMembership 13 = .ok (.invokestatic 205, 3) := by decide +kernel
theorem d_Ch_isMembership_16 : decode b_Ch_isMembership 16 = .ok (.istore_n 1, 1) := by decide +kernel
theorem d_Ch_isMembership_17 : decode b_Ch_isMembership 17 = .ok (.iload_n 1, 1) := by decide +kernel
theorem d_Ch_isMembership_18 : decode b_Ch_isMembership 18 = .ok (.iconst 3, 1) := by decide +kernel
theorem d_Ch_isMembership_19 : decode b_Ch_isMembership 19 = .ok (.if_icmp .lt 12, 3) := by decide +kernel
theorem d_Ch_isMembership_22 : decode b_Ch_isMembership 22 = .ok (.iload_n 1, 1) := by decide +kernel
theorem d_Ch_isMembership_23 : decode b_Ch_isMembership 23 = .ok (.iconst 5, 1) := by decide +kernel
theorem d_Ch_isMembership_24 : decode b_Ch_isMembership 24 = .ok (.if_icmp .gt 7, 3) := by decide +kernel
theorem d_Ch_isMembership_27 : decode b_Ch_isMembership 27 = .ok (.iconst 1, 1) := by decide +kernel
theorem d_Ch_isMembership_28 : decode b_Ch_isMembership 28 = .ok (.goto 4, 3) := by decide +kernel
theorem d_Ch_isMembership_31 : decode b_Ch_isMembership 31 = .ok (.iconst 0, 1) := by decide +kernel
theorem d_Ch_isMembership_32 : decode b_Ch_isMembership 32 = .ok (.ireturn, 1) := by decide +kernel
def wp_Ch_isNode (x1 : Int32) (post : Int32 → Prop) : Prop := ((x1 < (0 : Int32) → (post (0 : Int32))) ∧ (¬ x1 < (0 : Int32) → (((6 : Int32) ≤ x1 → (post (0 : Int32))) ∧ (¬ (6 : Int32) ≤ x1 → (post (1 : Int32))))))
abbrev rm_Ch_isNode : Room := { frames := 0, cells := 0, slots := 0, locals := 0 }
def wp_Ch_isKey (x1 : Int32) (post : Int32 → Prop) : Prop := ((x1 < (0 : Int32) → (post (0 : Int32))) ∧ (¬ x1 < (0 : Int32) → (((4 : Int32) ≤ x1 → (post (0 : Int32))) ∧ (¬ (4 : Int32) ≤ x1 → (post (1 : Int32))))))
abbrev rm_Ch_isKey : Room := { frames := 0, cells := 0, slots := 0, locals := 0 }
def wp_Ch_isConfiguration (x1 : Int32) (post : Int32 → Prop) : Prop := ((x1 < (0 : Int32) → (post (0 : Int32))) ∧ (¬ x1 < (0 : Int32) → (((5 : Int32) ≤ x1 → (post (0 : Int32))) ∧ (¬ (5 : Int32) ≤ x1 → (post (1 : Int32))))))
abbrev rm_Ch_isConfiguration : Room := { frames := 0, cells := 0, slots := 0, locals := 0 }
def wp_Ch_isSlot (x1 : Int32) (post : Int32 → Prop) : Prop := ((x1 < (1 : Int32) → (post (0 : Int32))) ∧ (¬ x1 < (1 : Int32) → (((8 : Int32) < x1 → (post (0 : Int32))) ∧ (¬ (8 : Int32) < x1 → (post (1 : Int32))))))
abbrev rm_Ch_isSlot : Room := { frames := 0, cells := 0, slots := 0, locals := 0 }
def wp_Ch_isMembership (x1 : Int32) (post : Int32 → Prop) : Prop := ((x1 < (0 : Int32) → (post (0 : Int32))) ∧ (¬ x1 < (0 : Int32) → ((x1 < (64 : Int32) → (wp_Ji_bitCount x1 (fun (r3 : Int32) => ((r3 < (3 : Int32) → (post (0 : Int32))) ∧ (¬ r3 < (3 : Int32) → (((5 : Int32) < r3 → (post (0 : Int32))) ∧ (¬ (5 : Int32) < r3 → (post (1 : Int32))))))))) ∧ (¬ x1 < (64 : Int32) → (post (0 : Int32))))))
abbrev rm_Ch_isMembership : Room := { frames := 1, cells := 0, slots := 0, locals := 20 }
set_option maxHeartbeats 4000000 in
set_option maxRecDepth 100000 in
theorem c_Ch_isNode (l : Launch) (D : va_G) (cI cN cZ : ClassId) (x1 : Int32) (post : Int32 → Prop) (hw : wp_Ch_isNode x1 post) : km_I l y_Ch_isNode (.code y_Ch_isNode b_Ch_isNode 1 (some .boolean) :: kmW) rm_Ch_isNode D kmC (kmT cI cN cZ) kmF kmM [.int x1] ([] : va_W) (fun (r : Int32) (u : Unit) => post r) (fun (u : Unit) => ([] : va_W)) 0 0 := by
  refine km_startI (cc := b_Ch_isNode) (maxL := 1) (ret := (some .boolean)) (by decide) rfl (Nat.le_of_ble_eq_true rfl) ?_
  intro p e s m below meth c A ls hE hA hK hP hD hS hl
  obtain ⟨hx, hb, hr, hml, hown, hts0, hlk, hnm⟩ := id hE
  have hts : ∀ w ∈ kmW, w.before ([.int x1] : List Value).toArray s = true := fun w h => hts0 w (List.mem_cons_of_mem _ h)
  have hP : va_P D kmC ([] : va_W) s.heap := hP
  have hl : lv_has ls 1 [(0, .int x1)] := hl
  unfold wp_Ch_isNode at hw
  refine lv_iload_n hx hb d_Ch_isNode_0 rfl (lv_at hl 0 rfl) ?_
  refine lv_if_lt (tgt := 14) hx hb d_Ch_isNode_1 (by first | rfl | decide) (fun h1 => ?_) (fun h1 => ?_)
  · have hw := hw.1 h1
    refine lv_iconst (v := (0 : Int32)) hx hb d_Ch_isNode_14 (by decide) ?_
    exact W.zret (ty := .boolean) (v := (0 : Int32)) hx hb hr (by decide) (fun t ht hW => ⟨⟨(0 : Int32), (), rfl, hw, by rw [ht]; exact hP, hD⟩, hS.F ht⟩) hS.2.2 d_Ch_isNode_15
  · have hw := hw.2 h1
    refine lv_iload_n hx hb d_Ch_isNode_4 rfl (lv_at hl 0 rfl) ?_
    refine lv_bipush (v := (6 : Int32)) hx hb d_Ch_isNode_5 (by decide) ?_
    refine lv_icmp_ge (tgt := 14) hx hb d_Ch_isNode_7 (by first | rfl | decide) (fun h2 => ?_) (fun h2 => ?_)
    · have hw := hw.1 h2
      refine lv_iconst (v := (0 : Int32)) hx hb d_Ch_isNode_14 (by decide) ?_
      exact W.zret (ty := .boolean) (v := (0 : Int32)) hx hb hr (by decide) (fun t ht hW => ⟨⟨(0 : Int32), (), rfl, hw, by rw [ht]; exact hP, hD⟩, hS.F ht⟩) hS.2.2 d_Ch_isNode_15
    · have hw := hw.2 h2
      refine lv_iconst (v := (1 : Int32)) hx hb d_Ch_isNode_10 (by decide) ?_
      refine lv_goto (tgt := 15) hx hb d_Ch_isNode_11 (by first | rfl | decide) ?_
      exact W.zret (ty := .boolean) (v := (1 : Int32)) hx hb hr (by decide) (fun t ht hW => ⟨⟨(1 : Int32), (), rfl, hw, by rw [ht]; exact hP, hD⟩, hS.F ht⟩) hS.2.2 d_Ch_isNode_15
set_option maxHeartbeats 4000000 in
set_option maxRecDepth 100000 in
theorem c_Ch_isKey (l : Launch) (D : va_G) (cI cN cZ : ClassId) (x1 : Int32) (post : Int32 → Prop) (hw : wp_Ch_isKey x1 post) : km_I l y_Ch_isKey (.code y_Ch_isKey b_Ch_isKey 1 (some .boolean) :: kmW) rm_Ch_isKey D kmC (kmT cI cN cZ) kmF kmM [.int x1] ([] : va_W) (fun (r : Int32) (u : Unit) => post r) (fun (u : Unit) => ([] : va_W)) 0 0 := by
  refine km_startI (cc := b_Ch_isKey) (maxL := 1) (ret := (some .boolean)) (by decide) rfl (Nat.le_of_ble_eq_true rfl) ?_
  intro p e s m below meth c A ls hE hA hK hP hD hS hl
  obtain ⟨hx, hb, hr, hml, hown, hts0, hlk, hnm⟩ := id hE
  have hts : ∀ w ∈ kmW, w.before ([.int x1] : List Value).toArray s = true := fun w h => hts0 w (List.mem_cons_of_mem _ h)
  have hP : va_P D kmC ([] : va_W) s.heap := hP
  have hl : lv_has ls 1 [(0, .int x1)] := hl
  unfold wp_Ch_isKey at hw
  refine lv_iload_n hx hb d_Ch_isKey_0 rfl (lv_at hl 0 rfl) ?_
  refine lv_if_lt (tgt := 13) hx hb d_Ch_isKey_1 (by first | rfl | decide) (fun h1 => ?_) (fun h1 => ?_)
  · have hw := hw.1 h1
    refine lv_iconst (v := (0 : Int32)) hx hb d_Ch_isKey_13 (by decide) ?_
    exact W.zret (ty := .boolean) (v := (0 : Int32)) hx hb hr (by decide) (fun t ht hW => ⟨⟨(0 : Int32), (), rfl, hw, by rw [ht]; exact hP, hD⟩, hS.F ht⟩) hS.2.2 d_Ch_isKey_14
  · have hw := hw.2 h1
    refine lv_iload_n hx hb d_Ch_isKey_4 rfl (lv_at hl 0 rfl) ?_
    refine lv_iconst (v := (4 : Int32)) hx hb d_Ch_isKey_5 (by decide) ?_
    refine lv_icmp_ge (tgt := 13) hx hb d_Ch_isKey_6 (by first | rfl | decide) (fun h2 => ?_) (fun h2 => ?_)
    · have hw := hw.1 h2
      refine lv_iconst (v := (0 : Int32)) hx hb d_Ch_isKey_13 (by decide) ?_
      exact W.zret (ty := .boolean) (v := (0 : Int32)) hx hb hr (by decide) (fun t ht hW => ⟨⟨(0 : Int32), (), rfl, hw, by rw [ht]; exact hP, hD⟩, hS.F ht⟩) hS.2.2 d_Ch_isKey_14
    · have hw := hw.2 h2
      refine lv_iconst (v := (1 : Int32)) hx hb d_Ch_isKey_9 (by decide) ?_
      refine lv_goto (tgt := 14) hx hb d_Ch_isKey_10 (by first | rfl | decide) ?_
      exact W.zret (ty := .boolean) (v := (1 : Int32)) hx hb hr (by decide) (fun t ht hW => ⟨⟨(1 : Int32), (), rfl, hw, by rw [ht]; exact hP, hD⟩, hS.F ht⟩) hS.2.2 d_Ch_isKey_14
set_option maxHeartbeats 4000000 in
set_option maxRecDepth 100000 in
theorem c_Ch_isConfiguration (l : Launch) (D : va_G) (cI cN cZ : ClassId) (x1 : Int32) (post : Int32 → Prop) (hw : wp_Ch_isConfiguration x1 post) : km_I l y_Ch_isConfiguration (.code y_Ch_isConfiguration b_Ch_isConfiguration 1 (some .boolean) :: kmW) rm_Ch_isConfiguration D kmC (kmT cI cN cZ) kmF kmM [.int x1] ([] : va_W) (fun (r : Int32) (u : Unit) => post r) (fun (u : Unit) => ([] : va_W)) 0 0 := by
  refine km_startI (cc := b_Ch_isConfiguration) (maxL := 1) (ret := (some .boolean)) (by decide) rfl (Nat.le_of_ble_eq_true rfl) ?_
  intro p e s m below meth c A ls hE hA hK hP hD hS hl
  obtain ⟨hx, hb, hr, hml, hown, hts0, hlk, hnm⟩ := id hE
  have hts : ∀ w ∈ kmW, w.before ([.int x1] : List Value).toArray s = true := fun w h => hts0 w (List.mem_cons_of_mem _ h)
  have hP : va_P D kmC ([] : va_W) s.heap := hP
  have hl : lv_has ls 1 [(0, .int x1)] := hl
  unfold wp_Ch_isConfiguration at hw
  refine lv_iload_n hx hb d_Ch_isConfiguration_0 rfl (lv_at hl 0 rfl) ?_
  refine lv_if_lt (tgt := 13) hx hb d_Ch_isConfiguration_1 (by first | rfl | decide) (fun h1 => ?_) (fun h1 => ?_)
  · have hw := hw.1 h1
    refine lv_iconst (v := (0 : Int32)) hx hb d_Ch_isConfiguration_13 (by decide) ?_
    exact W.zret (ty := .boolean) (v := (0 : Int32)) hx hb hr (by decide) (fun t ht hW => ⟨⟨(0 : Int32), (), rfl, hw, by rw [ht]; exact hP, hD⟩, hS.F ht⟩) hS.2.2 d_Ch_isConfiguration_14
  · have hw := hw.2 h1
    refine lv_iload_n hx hb d_Ch_isConfiguration_4 rfl (lv_at hl 0 rfl) ?_
    refine lv_iconst (v := (5 : Int32)) hx hb d_Ch_isConfiguration_5 (by decide) ?_
    refine lv_icmp_ge (tgt := 13) hx hb d_Ch_isConfiguration_6 (by first | rfl | decide) (fun h2 => ?_) (fun h2 => ?_)
    · have hw := hw.1 h2
      refine lv_iconst (v := (0 : Int32)) hx hb d_Ch_isConfiguration_13 (by decide) ?_
      exact W.zret (ty := .boolean) (v := (0 : Int32)) hx hb hr (by decide) (fun t ht hW => ⟨⟨(0 : Int32), (), rfl, hw, by rw [ht]; exact hP, hD⟩, hS.F ht⟩) hS.2.2 d_Ch_isConfiguration_14
    · have hw := hw.2 h2
      refine lv_iconst (v := (1 : Int32)) hx hb d_Ch_isConfiguration_9 (by decide) ?_
      refine lv_goto (tgt := 14) hx hb d_Ch_isConfiguration_10 (by first | rfl | decide) ?_
      exact W.zret (ty := .boolean) (v := (1 : Int32)) hx hb hr (by decide) (fun t ht hW => ⟨⟨(1 : Int32), (), rfl, hw, by rw [ht]; exact hP, hD⟩, hS.F ht⟩) hS.2.2 d_Ch_isConfiguration_14
set_option maxHeartbeats 4000000 in
set_option maxRecDepth 100000 in
theorem c_Ch_isSlot (l : Launch) (D : va_G) (cI cN cZ : ClassId) (x1 : Int32) (post : Int32 → Prop) (hw : wp_Ch_isSlot x1 post) : km_I l y_Ch_isSlot (.code y_Ch_isSlot b_Ch_isSlot 1 (some .boolean) :: kmW) rm_Ch_isSlot D kmC (kmT cI cN cZ) kmF kmM [.int x1] ([] : va_W) (fun (r : Int32) (u : Unit) => post r) (fun (u : Unit) => ([] : va_W)) 0 0 := by
  refine km_startI (cc := b_Ch_isSlot) (maxL := 1) (ret := (some .boolean)) (by decide) rfl (Nat.le_of_ble_eq_true rfl) ?_
  intro p e s m below meth c A ls hE hA hK hP hD hS hl
  obtain ⟨hx, hb, hr, hml, hown, hts0, hlk, hnm⟩ := id hE
  have hts : ∀ w ∈ kmW, w.before ([.int x1] : List Value).toArray s = true := fun w h => hts0 w (List.mem_cons_of_mem _ h)
  have hP : va_P D kmC ([] : va_W) s.heap := hP
  have hl : lv_has ls 1 [(0, .int x1)] := hl
  unfold wp_Ch_isSlot at hw
  refine lv_iload_n hx hb d_Ch_isSlot_0 rfl (lv_at hl 0 rfl) ?_
  refine lv_iconst (v := (1 : Int32)) hx hb d_Ch_isSlot_1 (by decide) ?_
  refine lv_icmp_lt (tgt := 15) hx hb d_Ch_isSlot_2 (by first | rfl | decide) (fun h1 => ?_) (fun h1 => ?_)
  · have hw := hw.1 h1
    refine lv_iconst (v := (0 : Int32)) hx hb d_Ch_isSlot_15 (by decide) ?_
    exact W.zret (ty := .boolean) (v := (0 : Int32)) hx hb hr (by decide) (fun t ht hW => ⟨⟨(0 : Int32), (), rfl, hw, by rw [ht]; exact hP, hD⟩, hS.F ht⟩) hS.2.2 d_Ch_isSlot_16
  · have hw := hw.2 h1
    refine lv_iload_n hx hb d_Ch_isSlot_5 rfl (lv_at hl 0 rfl) ?_
    refine lv_bipush (v := (8 : Int32)) hx hb d_Ch_isSlot_6 (by decide) ?_
    refine lv_icmp_gt (tgt := 15) hx hb d_Ch_isSlot_8 (by first | rfl | decide) (fun h2 => ?_) (fun h2 => ?_)
    · have hw := hw.1 h2
      refine lv_iconst (v := (0 : Int32)) hx hb d_Ch_isSlot_15 (by decide) ?_
      exact W.zret (ty := .boolean) (v := (0 : Int32)) hx hb hr (by decide) (fun t ht hW => ⟨⟨(0 : Int32), (), rfl, hw, by rw [ht]; exact hP, hD⟩, hS.F ht⟩) hS.2.2 d_Ch_isSlot_16
    · have hw := hw.2 h2
      refine lv_iconst (v := (1 : Int32)) hx hb d_Ch_isSlot_11 (by decide) ?_
      refine lv_goto (tgt := 16) hx hb d_Ch_isSlot_12 (by first | rfl | decide) ?_
      exact W.zret (ty := .boolean) (v := (1 : Int32)) hx hb hr (by decide) (fun t ht hW => ⟨⟨(1 : Int32), (), rfl, hw, by rw [ht]; exact hP, hD⟩, hS.F ht⟩) hS.2.2 d_Ch_isSlot_16
set_option maxHeartbeats 4000000 in
set_option maxRecDepth 100000 in
theorem c_Ch_isMembership (l : Launch) (D : va_G) (cI cN cZ : ClassId) (x1 : Int32) (post : Int32 → Prop) (hw : wp_Ch_isMembership x1 post) : km_I l y_Ch_isMembership (.code y_Ch_isMembership b_Ch_isMembership 2 (some .boolean) :: kmW) rm_Ch_isMembership D kmC (kmT cI cN cZ) kmF kmM [.int x1] ([] : va_W) (fun (r : Int32) (u : Unit) => post r) (fun (u : Unit) => ([] : va_W)) 0 0 := by
  refine km_startI (cc := b_Ch_isMembership) (maxL := 2) (ret := (some .boolean)) (by decide) rfl (Nat.le_of_ble_eq_true rfl) ?_
  intro p e s m below meth c A ls hE hA hK hP hD hS hl
  obtain ⟨hx, hb, hr, hml, hown, hts0, hlk, hnm⟩ := id hE
  have hts : ∀ w ∈ kmW, w.before ([.int x1] : List Value).toArray s = true := fun w h => hts0 w (List.mem_cons_of_mem _ h)
  have hP : va_P D kmC ([] : va_W) s.heap := hP
  have hl : lv_has ls 2 [(0, .int x1)] := hl
  unfold wp_Ch_isMembership at hw
  refine lv_iload_n hx hb d_Ch_isMembership_0 rfl (lv_at hl 0 rfl) ?_
  refine lv_if_lt (tgt := 10) hx hb d_Ch_isMembership_1 (by first | rfl | decide) (fun h1 => ?_) (fun h1 => ?_)
  · have hw := hw.1 h1
    refine lv_iconst (v := (0 : Int32)) hx hb d_Ch_isMembership_10 (by decide) ?_
    exact W.zret (ty := .boolean) (v := (0 : Int32)) hx hb hr (by decide) (fun t ht hW => ⟨⟨(0 : Int32), (), rfl, hw, by rw [ht]; exact hP, hD⟩, hS.F ht⟩) hS.2.2 d_Ch_isMembership_11
  · have hw := hw.2 h1
    refine lv_iload_n hx hb d_Ch_isMembership_4 rfl (lv_at hl 0 rfl) ?_
    refine lv_bipush (v := (64 : Int32)) hx hb d_Ch_isMembership_5 (by decide) ?_
    refine lv_icmp_lt (tgt := 12) hx hb d_Ch_isMembership_7 (by first | rfl | decide) (fun h2 => ?_) (fun h2 => ?_)
    · have hw := hw.1 h2
      refine lv_iload_n hx hb d_Ch_isMembership_12 rfl (lv_at hl 0 rfl) ?_
      refine km_ci (wr := []) (km_rS (n := 1) hE kmG (c_Ji_bitCount l D cI cN cZ x1 _ hw) mw_206 mw_204 mw_205 mw_9 (by decide) ⟨rfl, rfl, ⟨by decide, by decide⟩, by decide, by decide⟩ hK (km_cut hP [] rfl) (hD.sub [] (by decide) rfl) rfl hl.1 rfl (Nat.le_of_ble_eq_true rfl) d_Ch_isMembership_13) hP hD hS hA [] [] rfl rfl (by decide) (by decide) (fun r3 _ H locs hw hP hD hS => ?_)
      have hP := hP.sub (ws' := ([] : va_W)) [] rfl
      have hD := hD.sub (ws' := ([] : va_W)) [] (by decide) rfl
      refine lv_istore_n (lv' := [(1, .int r3), (0, .int x1)]) hx hb d_Ch_isMembership_16 rfl hl (by decide) rfl (fun ls hl => ?_)
      refine lv_iload_n hx hb d_Ch_isMembership_17 rfl (lv_at hl 0 rfl) ?_
      refine lv_iconst (v := (3 : Int32)) hx hb d_Ch_isMembership_18 (by decide) ?_
      refine lv_icmp_lt (tgt := 31) hx hb d_Ch_isMembership_19 (by first | rfl | decide) (fun h4 => ?_) (fun h4 => ?_)
      · have hw := hw.1 h4
        refine lv_iconst (v := (0 : Int32)) hx hb d_Ch_isMembership_31 (by decide) ?_
        exact W.zret (ty := .boolean) (v := (0 : Int32)) hx hb hr (by decide) (fun t ht hW => ⟨⟨(0 : Int32), (), rfl, hw, by rw [ht]; exact hP, hD⟩, hS.F ht⟩) hS.2.2 d_Ch_isMembership_32
      · have hw := hw.2 h4
        refine lv_iload_n hx hb d_Ch_isMembership_22 rfl (lv_at hl 0 rfl) ?_
        refine lv_iconst (v := (5 : Int32)) hx hb d_Ch_isMembership_23 (by decide) ?_
        refine lv_icmp_gt (tgt := 31) hx hb d_Ch_isMembership_24 (by first | rfl | decide) (fun h5 => ?_) (fun h5 => ?_)
        · have hw := hw.1 h5
          refine lv_iconst (v := (0 : Int32)) hx hb d_Ch_isMembership_31 (by decide) ?_
          exact W.zret (ty := .boolean) (v := (0 : Int32)) hx hb hr (by decide) (fun t ht hW => ⟨⟨(0 : Int32), (), rfl, hw, by rw [ht]; exact hP, hD⟩, hS.F ht⟩) hS.2.2 d_Ch_isMembership_32
        · have hw := hw.2 h5
          refine lv_iconst (v := (1 : Int32)) hx hb d_Ch_isMembership_27 (by decide) ?_
          refine lv_goto (tgt := 32) hx hb d_Ch_isMembership_28 (by first | rfl | decide) ?_
          exact W.zret (ty := .boolean) (v := (1 : Int32)) hx hb hr (by decide) (fun t ht hW => ⟨⟨(1 : Int32), (), rfl, hw, by rw [ht]; exact hP, hD⟩, hS.F ht⟩) hS.2.2 d_Ch_isMembership_32
    · have hw := hw.2 h2
      refine lv_iconst (v := (0 : Int32)) hx hb d_Ch_isMembership_10 (by decide) ?_
      exact W.zret (ty := .boolean) (v := (0 : Int32)) hx hb hr (by decide) (fun t ht hW => ⟨⟨(0 : Int32), (), rfl, hw, by rw [ht]; exact hP, hD⟩, hS.F ht⟩) hS.2.2 d_Ch_isMembership_11
