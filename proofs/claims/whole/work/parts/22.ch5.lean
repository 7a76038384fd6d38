theorem d_Ch_tell_0 : decode b_Ch_tell 0 = .ok (.iload_n 1, 1) := by decide +kernel
theorem d_Ch_tell_1 : decode b_Ch_tell 1 = .ok (.invokestatic 54, 3) := by decide +kernel
theorem d_Ch_tell_4 : decode b_Ch_tell 4 = .ok (.ifCond .eq 15, 3) := by decide +kernel
theorem d_Ch_tell_7 : decode b_Ch_tell 7 = .ok (.iload_n 2, 1) := by decide +kernel
theorem d_Ch_tell_8 : decode b_Ch_tell 8 = .ok (.invokestatic 54, 3) := by decide +kernel
theorem d_Ch_tell_11 : decode b_Ch_tell 11 = .ok (.ifCond .eq 8, 3) := by decide +kernel
theorem d_Ch_tell_14 : decode b_Ch_tell 14 = .ok (.iload_n 1, 1) := by decide +kernel
theorem d_Ch_tell_15 : decode b_Ch_tell 15 = .ok (.iload_n 2, 1) := by decide +kernel
theorem d_Ch_tell_16 : decode b_Ch_tell 16 = .ok (.if_icmp .ne 5, 3) := by decide +kernel
theorem d_Ch_tell_19 : decode b_Ch_tell 19 = .ok (.iconst (-1), 1) := by decide +kernel
theorem d_Ch_tell_20 : decode b_Ch_tell 20 = .ok (.ireturn, 1) := by decide +kernel
theorem d_Ch_tell_21 : decode b_Ch_tell 21 = .ok (.aload_n 0, 1) := by decide +kernel
theorem d_Ch_tell_22 : decode b_Ch_tell 22 = .ok (.getfield 11, 3) := by decide +kernel
theorem d_Ch_tell_25 : decode b_Ch_tell 25 = .ok (.iload_n 1, 1) := by decide +kernel
theorem d_Ch_tell_26 : decode b_Ch_tell 26 = .ok (.aaload, 1) := by decide +kernel
theorem d_Ch_tell_27 : decode b_Ch_tell 27 = .ok (.astore_n 3, 1) := by decide +kernel
theorem d_Ch_tell_28 : decode b_Ch_tell 28 = .ok (.aload_n 0, 1) := by decide +kernel
theorem d_Ch_tell_29 : decode b_Ch_tell 29 = .ok (.getfield 11, 3) := by decide +kernel
theorem d_Ch_tell_32 : decode b_Ch_tell 32 = .ok (.iload_n 2, 1) := by decide +kernel
theorem d_Ch_tell_33 : decode b_Ch_tell 33 = .ok (.aaload, 1) := by decide +kernel
theorem d_Ch_tell_34 : decode b_Ch_tell 34 = .ok (.astore 4, 2) := by decide +kernel
theorem d_Ch_tell_36 : decode b_Ch_tell 36 = .ok (.aload_n 3, 1) := by decide +kernel
theorem d_Ch_tell_37 : decode b_Ch_tell 37 = .ok (.getfield 57, 3) := by decide +kernel
theorem d_Ch_tell_40 : decode b_Ch_tell 40 = .ok (.ifCond .eq 11, 3) := by decide +kernel
theorem d_Ch_tell_43 : decode b_Ch_tell 43 = .ok (.aload 4, 2) := by decide +kernel
theorem d_Ch_tell_45 : decode b_Ch_tell 45 = .ok (.getfield 57, 3) := by decide +kernel
theorem d_Ch_tell_48 : decode b_Ch_tell 48 = .ok (.ifCond .ne 6, 3) := by decide +kernel
theorem d_Ch_tell_51 : decode b_Ch_tell 51 = .ok (.bipush (-2), 2) := by decide +kernel
theorem d_Ch_tell_53 : decode b_Ch_tell 53 = .ok (.ireturn, 1) := by decide +kernel
theorem d_Ch_tell_54 : decode b_Ch_tell 54 = .ok (.aload 4, 2) := by decide +kernel
theorem d_Ch_tell_56 : decode b_Ch_tell 56 = .ok (.aload_n 3, 1) := by decide +kernel
theorem d_Ch_tell_57 : decode b_Ch_tell 57 = .ok (.getfield 61, 3) := by decide +kernel
theorem d_Ch_tell_60 : decode b_Ch_tell 60 = .ok (.invokevirtual 157, 3) := by decide +kernel
theorem d_Ch_tell_63 : decode b_Ch_tell 63 = .ok (.istore 5, 2) := by decide +kernel
theorem d_Ch_tell_65 : decode b_Ch_tell 65 = .ok (.aload 4, 2) := by decide +kernel
theorem d_Ch_tell_67 : decode b_Ch_tell 67 = .ok (.aload_n 3, 1) := by decide +kernel
theorem d_Ch_tell_68 : decode b_Ch_tell 68 = .ok (.invokevirtual 161, 3) := by decide +kernel
theorem d_Ch_tell_71 : decode b_Ch_tell 71 = .ok (.istore 6, 2) := by decide +kernel
theorem d_Ch_tell_73 : decode b_Ch_tell 73 = .ok (.aload 4, 2) := by decide +kernel
theorem d_Ch_tell_75 : decode b_Ch_tell 75 = .ok (.aload_n 0, 1) := by decide +kernel
theorem d_Ch_tell_76 : decode b_Ch_tell 76 = .ok (.getfield 21, 3) := by decide +kernel
theorem d_Ch_tell_79 : decode b_Ch_tell 79 = .ok (.invokevirtual 165, 3) := by decide +kernel
theorem d_Ch_tell_82 : decode b_Ch_tell 82 = .ok (.iload 5, 2) := by decide +kernel
theorem d_Ch_tell_84 : decode b_Ch_tell 84 = .ok (.ifCond .ne 8, 3) := by decide +kernel
theorem d_Ch_tell_87 : decode b_Ch_tell 87 = .ok (.iload 6, 2) := by decide +kernel
theorem d_Ch_tell_89 : decode b_Ch_tell 89 = .ok (.ifCond .eq 7, 3) := by decide +kernel
theorem d_Ch_tell_92 : decode b_Ch_tell 92 = .ok (.iconst 1, 1) := by decide +kernel
theorem d_Ch_tell_93 : decode b_Ch_tell 93 = .ok (.goto 4, 3) := by decide +kernel
theorem d_Ch_tell_96 : decode b_Ch_tell 96 = .ok (.iconst 3, 1) := by decide +kernel
theorem d_Ch_tell_97 : decode b_Ch_tell 97 = .ok (.ireturn, 1) := by decide +kernel
def wp_Ch_tell (k2 : Nat) (k3 : Nat) (z1 : MchT) (z2 : MndT) (z3 : MndT) (x1 : Int32) (x2 : Int32) (post : Int32 → MchT → MndT → MndT → Prop) : Prop := (wp_Ch_isNode x1 (fun (r1 : Int32) => ((r1 = (0 : Int32) → (post (-1 : Int32) z1 z2 z3)) ∧ (¬ r1 = (0 : Int32) → (wp_Ch_isNode x2 (fun (r3 : Int32) => ((r3 = (0 : Int32) → (post (-1 : Int32) z1 z2 z3)) ∧ (¬ r3 = (0 : Int32) → ((x1 = x2 → (post (-1 : Int32) z1 z2 z3)) ∧ (¬ x1 = x2 → (x1 = nI k2 ∧ (x2 = nI k3 ∧ (((mnd_up z2) = (0 : Int32) → (post (-2 : Int32) z1 z2 z3)) ∧ (¬ (mnd_up z2) = (0 : Int32) → (((mnd_up z3) = (0 : Int32) → (post (-2 : Int32) z1 z2 z3)) ∧ (¬ (mnd_up z3) = (0 : Int32) → (wp_Nd_install z3 (mnd_state z2) (fun (r8 : Int32) (u9 : MndT) (u10 : MstT) => (wp_Nd_learnFrom u9 (mnd_s_state z2 u10) (fun (r11 : Int32) (u12 : MndT) (u13 : MndT) => (wp_Nd_goOn u12 (mch_book z1) (fun (u15 : MndT) (u16 : MbkT) => ((r8 = (0 : Int32) → ((r11 = (0 : Int32) → (post (3 : Int32) (mch_s_book z1 u16) u13 u15)) ∧ (¬ r11 = (0 : Int32) → (post (1 : Int32) (mch_s_book z1 u16) u13 u15)))) ∧ (¬ r8 = (0 : Int32) → (post (1 : Int32) (mch_s_book z1 u16) u13 u15)))))))))))))))))))))))))
abbrev rm_Ch_tell : Room := { frames := 5, cells := 0, slots := 0, locals := 113 }
set_option maxHeartbeats 4000000 in
set_option maxRecDepth 100000 in
theorem c_Ch_tell (l : Launch) (D : va_G) (cI cN cZ : ClassId) (a1 : Nat → Nat) (a2 : Nat → Nat) (a3 : Nat → Nat) (g : Nat → Option Nat) (k2 : Nat) (hk2 : k2 < 6) (hg2 : g k2 = some (a2 0)) (k3 : Nat) (hk3 : k3 < 6) (hg3 : g k3 = some (a3 0)) (z1 : MchT) (z2 : MndT) (z3 : MndT) (x1 : Int32) (x2 : Int32) (post : Int32 → MchT → MndT → MndT → Prop) (hw : wp_Ch_tell k2 k3 z1 z2 z3 x1 x2 post) : km_I l y_Ch_tell (.code y_Ch_tell b_Ch_tell 7 (some .int) :: kmW) rm_Ch_tell D kmC (kmT cI cN cZ) kmF kmM [.ref (a1 0), .int x1, .int x2] (mchW cI cN cZ a1 g z1 ++ mndW cI cN cZ a2 z2 ++ mndW cI cN cZ a3 z3) (fun (r : Int32) (u : MchT × MndT × MndT) => post r u.1 u.2.1 u.2.2) (fun (u : MchT × MndT × MndT) => (mchW cI cN cZ a1 g u.1 ++ mndW cI cN cZ a2 u.2.1 ++ mndW cI cN cZ a3 u.2.2)) 0 0 := by
  refine km_startI (cc := b_Ch_tell) (maxL := 7) (ret := (some .int)) (by decide) rfl (Nat.le_of_ble_eq_true rfl) ?_
  intro p e s m below meth c A ls hE hA hK hP hD hS hl
  obtain ⟨hx, hb, hr, hml, hown, hts0, hlk, hnm⟩ := id hE
  have hts : ∀ w ∈ kmW, w.before ([.ref (a1 0), .int x1, .int x2] : List Value).toArray s = true := fun w h => hts0 w (List.mem_cons_of_mem _ h)
  have hP : va_P D kmC (mchW cI cN cZ a1 g z1 ++ mndW cI cN cZ a2 z2 ++ mndW cI cN cZ a3 z3) s.heap := hP
  have hl : lv_has ls 7 [(0, .ref (a1 0)), (1, .int x1), (2, .int x2)] := hl
  unfold wp_Ch_tell at hw
  refine lv_iload_n hx hb d_Ch_tell_0 rfl (lv_at hl 1 rfl) ?_
  refine km_ci (wr := [(a1 0, .inr (5, [.ref (a1 1), .ref (a1 2), .ref (a1 6), .ref (a1 7), .int (mch_routerConfiguration z1)])), (a1 1, .inl (cN, 6, .inr (.inr (.inr (.inr g))))), (a1 2, .inr (3, [.ref (a1 3), .ref (a1 4), .ref (a1 5), .int (mbk_count (mch_book z1))])), (a1 3, .inl (cI, 31, .inl (mbk_kinds (mch_book z1)))), (a1 4, .inl (cI, 31, .inl (mbk_keys (mch_book z1)))), (a1 5, .inl (cI, 31, .inl (mbk_numbers (mch_book z1)))), (a1 6, .inl (cI, 31, .inl (mch_heardAnswers z1))), (a1 7, .inl (cI, 31, .inl (mch_heardCounts z1))), (a2 0, .inr (2, [.int (mnd_number z2), .int (mnd_up z2), .ref (a2 1), .ref (a2 4), .int (mnd_last z2), .int (mnd_retired z2), .ref (a2 8), .int (mnd_pending z2), .ref (a2 9)])), (a2 1, .inr (4, [.int (mst_configuration (mnd_state z2)), .int (mst_membership (mnd_state z2)), .int (mst_executed (mnd_state z2)), .ref (a2 2), .int (mst_doneBits (mnd_state z2)), .ref (a2 3)])), (a2 2, .inl (cI, 4, .inl (mst_values (mnd_state z2)))), (a2 3, .inl (cI, 31, .inl (mst_answers (mnd_state z2)))), (a2 4, .inr (1, [.ref (a2 5), .ref (a2 6), .ref (a2 7)])), (a2 5, .inl (cI, 40, .inl (mlg_promisedBallots (mnd_ledger z2)))), (a2 6, .inl (cI, 40, .inl (mlg_voteBallots (mnd_ledger z2)))), (a2 7, .inl (cI, 40, .inl (mlg_voteCommands (mnd_ledger z2)))), (a2 8, .inl (cI, 9, .inl (mnd_knownCommands z2))), (a2 9, .inr (0, [.int (mat_slot (mnd_attempt z2)), .int (mat_ballot (mnd_attempt z2)), .int (mat_promisers (mnd_attempt z2)), .int (mat_voters (mnd_attempt z2)), .int (mat_bestBallot (mnd_attempt z2)), .int (mat_bestCommand (mnd_attempt z2)), .int (mat_command (mnd_attempt z2))])), (a3 0, .inr (2, [.int (mnd_number z3), .int (mnd_up z3), .ref (a3 1), .ref (a3 4), .int (mnd_last z3), .int (mnd_retired z3), .ref (a3 8), .int (mnd_pending z3), .ref (a3 9)])), (a3 1, .inr (4, [.int (mst_configuration (mnd_state z3)), .int (mst_membership (mnd_state z3)), .int (mst_executed (mnd_state z3)), .ref (a3 2), .int (mst_doneBits (mnd_state z3)), .ref (a3 3)])), (a3 2, .inl (cI, 4, .inl (mst_values (mnd_state z3)))), (a3 3, .inl (cI, 31, .inl (mst_answers (mnd_state z3)))), (a3 4, .inr (1, [.ref (a3 5), .ref (a3 6), .ref (a3 7)])), (a3 5, .inl (cI, 40, .inl (mlg_promisedBallots (mnd_ledger z3)))), (a3 6, .inl (cI, 40, .inl (mlg_voteBallots (mnd_ledger z3)))), (a3 7, .inl (cI, 40, .inl (mlg_voteCommands (mnd_ledger z3)))), (a3 8, .inl (cI, 9, .inl (mnd_knownCommands z3))), (a3 9, .inr (0, [.int (mat_slot (mnd_attempt z3)), .int (mat_ballot (mnd_attempt z3)), .int (mat_promisers (mnd_attempt z3)), .int (mat_voters (mnd_attempt z3)), .int (mat_bestBallot (mnd_attempt z3)), .int (mat_bestCommand (mnd_attempt z3)), .int (mat_command (mnd_attempt z3))]))]) (km_rS (n := 1) hE kmG (c_Ch_isNode l D cI cN cZ x1 _ hw) mw_228 mw_226 mw_227 mw_1 (by decide) ⟨rfl, rfl, ⟨by decide, by decide⟩, by decide, by decide⟩ hK (km_cut hP [] rfl) (hD.sub [] (by decide) rfl) rfl hl.1 rfl (Nat.le_of_ble_eq_true rfl) d_Ch_tell_1) hP hD hS hA [] [0, 1, 2, 3, 4, 5, 6, 7, 8, 9, 10, 11, 12, 13, 14, 15, 16, 17, 18, 19, 20, 21, 22, 23, 24, 25, 26, 27] rfl rfl (by decide) (by decide) (fun r1 _ H locs hw hP hD hS => ?_)
  have hP := hP.sub (ws' := (mchW cI cN cZ a1 g z1 ++ mndW cI cN cZ a2 z2 ++ mndW cI cN cZ a3 z3)) [0, 1, 2, 3, 4, 5, 6, 7, 8, 9, 10, 11, 12, 13, 14, 15, 16, 17, 18, 19, 20, 21, 22, 23, 24, 25, 26, 27] rfl
  have hD := hD.sub (ws' := (mchW cI cN cZ a1 g z1 ++ mndW cI cN cZ a2 z2 ++ mndW cI cN cZ a3 z3)) [0, 1, 2, 3, 4, 5, 6, 7, 8, 9, 10, 11, 12, 13, 14, 15, 16, 17, 18, 19, 20, 21, 22, 23, 24, 25, 26, 27] (by decide) rfl
  refine lv_if_eq (tgt := 19) hx hb d_Ch_tell_4 (by first | rfl | decide) (fun h2 => ?_) (fun h2 => ?_)
  · have hw := hw.1 h2
    refine lv_iconst (v := (-1 : Int32)) hx hb d_Ch_tell_19 (by decide) ?_
    exact W.iret (v := (-1 : Int32)) hx hb hr (fun t ht hW => ⟨⟨(-1 : Int32), (z1, z2, z3), rfl, hw, by rw [ht]; exact hP, hD⟩, hS.F ht⟩) hS.2.2 d_Ch_tell_20
  · have hw := hw.2 h2
    refine lv_iload_n hx hb d_Ch_tell_7 rfl (lv_at hl 2 rfl) ?_
    refine km_ci (wr := [(a1 0, .inr (5, [.ref (a1 1), .ref (a1 2), .ref (a1 6), .ref (a1 7), .int (mch_routerConfiguration z1)])), (a1 1, .inl (cN, 6, .inr (.inr (.inr (.inr g))))), (a1 2, .inr (3, [.ref (a1 3), .ref (a1 4), .ref (a1 5), .int (mbk_count (mch_book z1))])), (a1 3, .inl (cI, 31, .inl (mbk_kinds (mch_book z1)))), (a1 4, .inl (cI, 31, .inl (mbk_keys (mch_book z1)))), (a1 5, .inl (cI, 31, .inl (mbk_numbers (mch_book z1)))), (a1 6, .inl (cI, 31, .inl (mch_heardAnswers z1))), (a1 7, .inl (cI, 31, .inl (mch_heardCounts z1))), (a2 0, .inr (2, [.int (mnd_number z2), .int (mnd_up z2), .ref (a2 1), .ref (a2 4), .int (mnd_last z2), .int (mnd_retired z2), .ref (a2 8), .int (mnd_pending z2), .ref (a2 9)])), (a2 1, .inr (4, [.int (mst_configuration (mnd_state z2)), .int (mst_membership (mnd_state z2)), .int (mst_executed (mnd_state z2)), .ref (a2 2), .int (mst_doneBits (mnd_state z2)), .ref (a2 3)])), (a2 2, .inl (cI, 4, .inl (mst_values (mnd_state z2)))), (a2 3, .inl (cI, 31, .inl (mst_answers (mnd_state z2)))), (a2 4, .inr (1, [.ref (a2 5), .ref (a2 6), .ref (a2 7)])), (a2 5, .inl (cI, 40, .inl (mlg_promisedBallots (mnd_ledger z2)))), (a2 6, .inl (cI, 40, .inl (mlg_voteBallots (mnd_ledger z2)))), (a2 7, .inl (cI, 40, .inl (mlg_voteCommands (mnd_ledger z2)))), (a2 8, .inl (cI, 9, .inl (mnd_knownCommands z2))), (a2 9, .inr (0, [.int (mat_slot (mnd_attempt z2)), .int (mat_ballot (mnd_attempt z2)), .int (mat_promisers (mnd_attempt z2)), .int (mat_voters (mnd_attempt z2)), .int (mat_bestBallot (mnd_attempt z2)), .int (mat_bestCommand (mnd_attempt z2)), .int (mat_command (mnd_attempt z2))])), (a3 0, .inr (2, [.int (mnd_number z3), .int (mnd_up z3), .ref (a3 1), .ref (a3 4), .int (mnd_last z3), .int (mnd_retired z3), .ref (a3 8), .int (mnd_pending z3), .ref (a3 9)])), (a3 1, .inr (4, [.int (mst_configuration (mnd_state z3)), .int (mst_membership (mnd_state z3)), .int (mst_executed (mnd_state z3)), .ref (a3 2), .int (mst_doneBits (mnd_state z3)), .ref (a3 3)])), (a3 2, .inl (cI, 4, .inl (mst_values (mnd_state z3)))), (a3 3, .inl (cI, 31, .inl (mst_answers (mnd_state z3)))), (a3 4, .inr (1, [.ref (a3 5), .ref (a3 6), .ref (a3 7)])), (a3 5, .inl (cI, 40, .inl (mlg_promisedBallots (mnd_ledger z3)))), (a3 6, .inl (cI, 40, .inl (mlg_voteBallots (mnd_ledger z3)))), (a3 7, .inl (cI, 40, .inl (mlg_voteCommands (mnd_ledger z3)))), (a3 8, .inl (cI, 9, .inl (mnd_knownCommands z3))), (a3 9, .inr (0, [.int (mat_slot (mnd_attempt z3)), .int (mat_ballot (mnd_attempt z3)), .int (mat_promisers (mnd_attempt z3)), .int (mat_voters (mnd_attempt z3)), .int (mat_bestBallot (mnd_attempt z3)), .int (mat_bestCommand (mnd_attempt z3)), .int (mat_command (mnd_attempt z3))]))]) (km_rS (n := 1) hE kmG (c_Ch_isNode l D cI cN cZ x2 _ hw) mw_228 mw_226 mw_227 mw_1 (by decide) ⟨rfl, rfl, ⟨by decide, by decide⟩, by decide, by decide⟩ hK (km_cut hP [] rfl) (hD.sub [] (by decide) rfl) rfl hl.1 rfl (Nat.le_of_ble_eq_true rfl) d_Ch_tell_8) hP hD hS hA [] [0, 1, 2, 3, 4, 5, 6, 7, 8, 9, 10, 11, 12, 13, 14, 15, 16, 17, 18, 19, 20, 21, 22, 23, 24, 25, 26, 27] rfl rfl (by decide) (by decide) (fun r3 _ H locs hw hP hD hS => ?_)
    have hP := hP.sub (ws' := (mchW cI cN cZ a1 g z1 ++ mndW cI cN cZ a2 z2 ++ mndW cI cN cZ a3 z3)) [0, 1, 2, 3, 4, 5, 6, 7, 8, 9, 10, 11, 12, 13, 14, 15, 16, 17, 18, 19, 20, 21, 22, 23, 24, 25, 26, 27] rfl
    have hD := hD.sub (ws' := (mchW cI cN cZ a1 g z1 ++ mndW cI cN cZ a2 z2 ++ mndW cI cN cZ a3 z3)) [0, 1, 2, 3, 4, 5, 6, 7, 8, 9, 10, 11, 12, 13, 14, 15, 16, 17, 18, 19, 20, 21, 22, 23, 24, 25, 26, 27] (by decide) rfl
    refine lv_if_eq (tgt := 19) hx hb d_Ch_tell_11 (by first | rfl | decide) (fun h4 => ?_) (fun h4 => ?_)
    · have hw := hw.1 h4
      refine lv_iconst (v := (-1 : Int32)) hx hb d_Ch_tell_19 (by decide) ?_
      exact W.iret (v := (-1 : Int32)) hx hb hr (fun t ht hW => ⟨⟨(-1 : Int32), (z1, z2, z3), rfl, hw, by rw [ht]; exact hP, hD⟩, hS.F ht⟩) hS.2.2 d_Ch_tell_20
    · have hw := hw.2 h4
      refine lv_iload_n hx hb d_Ch_tell_14 rfl (lv_at hl 1 rfl) ?_
      refine lv_iload_n hx hb d_Ch_tell_15 rfl (lv_at hl 2 rfl) ?_
      refine lv_icmp_ne (tgt := 21) hx hb d_Ch_tell_16 (by first | rfl | decide) (fun h5 => ?_) (fun h5 => ?_)
      · have hw := hw.2 h5
        refine lv_aload_n hx hb d_Ch_tell_21 rfl (lv_at hl 0 rfl) ?_
        refine va_get (D := D) (ci := 5) (v := .ref (a1 1)) (C := R_Ch) (T := F_Ch) (N := 5) hx hb hts iw_Ch hown hK.1 hP 0 rfl rfl 0 (by decide) (hts _ mw_178) (fun _ h => h) rfl d_Ch_tell_22 ?_
        refine lv_iload_n hx hb d_Ch_tell_25 rfl (lv_at hl 1 rfl) ?_
        obtain ⟨hk, hw⟩ := hw
        refine km_ald hx hb hK.1 hP 1 1 rfl rfl hk hk2 (by decide) hg2 d_Ch_tell_26 ?_
        refine lv_astore_n (lv' := [(3, .ref (a2 0)), (0, .ref (a1 0)), (1, .int x1), (2, .int x2)]) hx hb d_Ch_tell_27 rfl hl (by decide) rfl (fun ls hl => ?_)
        refine lv_aload_n hx hb d_Ch_tell_28 rfl (lv_at hl 1 rfl) ?_
        refine va_get (D := D) (ci := 5) (v := .ref (a1 1)) (C := R_Ch) (T := F_Ch) (N := 5) hx hb hts iw_Ch hown hK.1 hP 0 rfl rfl 0 (by decide) (hts _ mw_178) (fun _ h => h) rfl d_Ch_tell_29 ?_
        refine lv_iload_n hx hb d_Ch_tell_32 rfl (lv_at hl 3 rfl) ?_
        obtain ⟨hk, hw⟩ := hw
        refine km_ald hx hb hK.1 hP 1 1 rfl rfl hk hk3 (by decide) hg3 d_Ch_tell_33 ?_
        refine lv_astore (lv' := [(4, .ref (a3 0)), (3, .ref (a2 0)), (0, .ref (a1 0)), (1, .int x1), (2, .int x2)]) hx hb d_Ch_tell_34 hl (by decide) rfl (fun ls hl => ?_)
        refine lv_aload_n hx hb d_Ch_tell_36 rfl (lv_at hl 1 rfl) ?_
        refine va_getN (D := D) (ci := 2) (v := .int (mnd_up z2)) (C := R_Nd) (T := F_Nd) (N := 9) hx hb hts iw_Nd hown hK.1 hP 8 rfl rfl 1 (by decide) (km_nF hK 20 rfl) (fun _ h => h) rfl d_Ch_tell_37 ?_
        refine lv_if_eq (tgt := 51) hx hb d_Ch_tell_40 (by first | rfl | decide) (fun h6 => ?_) (fun h6 => ?_)
        · have hw := hw.1 h6
          refine lv_bipush (v := (-2 : Int32)) hx hb d_Ch_tell_51 (by decide) ?_
          exact W.iret (v := (-2 : Int32)) hx hb hr (fun t ht hW => ⟨⟨(-2 : Int32), (z1, z2, z3), rfl, hw, by rw [ht]; exact hP, hD⟩, hS.F ht⟩) hS.2.2 d_Ch_tell_53
        · have hw := hw.2 h6
          refine lv_aload hx hb d_Ch_tell_43 (lv_at hl 0 rfl) ?_
          refine va_getN (D := D) (ci := 2) (v := .int (mnd_up z3)) (C := R_Nd) (T := F_Nd) (N := 9) hx hb hts iw_Nd hown hK.1 hP 18 rfl rfl 1 (by decide) (km_nF hK 20 rfl) (fun _ h => h) rfl d_Ch_tell_45 ?_
          refine lv_if_ne (tgt := 54) hx hb d_Ch_tell_48 (by first | rfl | decide) (fun h7 => ?_) (fun h7 => ?_)
          · have hw := hw.2 h7
            refine lv_aload hx hb d_Ch_tell_54 (lv_at hl 0 rfl) ?_
            refine lv_aload_n hx hb d_Ch_tell_56 rfl (lv_at hl 1 rfl) ?_
            refine va_getN (D := D) (ci := 2) (v := .ref (a2 1)) (C := R_Nd) (T := F_Nd) (N := 9) hx hb hts iw_Nd hown hK.1 hP 8 rfl rfl 2 (by decide) (km_nF hK 21 rfl) (fun _ h => h) rfl d_Ch_tell_57 ?_
            refine km_ci (wr := [(a1 0, .inr (5, [.ref (a1 1), .ref (a1 2), .ref (a1 6), .ref (a1 7), .int (mch_routerConfiguration z1)])), (a1 1, .inl (cN, 6, .inr (.inr (.inr (.inr g))))), (a1 2, .inr (3, [.ref (a1 3), .ref (a1 4), .ref (a1 5), .int (mbk_count (mch_book z1))])), (a1 3, .inl (cI, 31, .inl (mbk_kinds (mch_book z1)))), (a1 4, .inl (cI, 31, .inl (mbk_keys (mch_book z1)))), (a1 5, .inl (cI, 31, .inl (mbk_numbers (mch_book z1)))), (a1 6, .inl (cI, 31, .inl (mch_heardAnswers z1))), (a1 7, .inl (cI, 31, .inl (mch_heardCounts z1))), (a2 0, .inr (2, [.int (mnd_number z2), .int (mnd_up z2), .ref (a2 1), .ref (a2 4), .int (mnd_last z2), .int (mnd_retired z2), .ref (a2 8), .int (mnd_pending z2), .ref (a2 9)])), (a2 4, .inr (1, [.ref (a2 5), .ref (a2 6), .ref (a2 7)])), (a2 5, .inl (cI, 40, .inl (mlg_promisedBallots (mnd_ledger z2)))), (a2 6, .inl (cI, 40, .inl (mlg_voteBallots (mnd_ledger z2)))), (a2 7, .inl (cI, 40, .inl (mlg_voteCommands (mnd_ledger z2)))), (a2 8, .inl (cI, 9, .inl (mnd_knownCommands z2))), (a2 9, .inr (0, [.int (mat_slot (mnd_attempt z2)), .int (mat_ballot (mnd_attempt z2)), .int (mat_promisers (mnd_attempt z2)), .int (mat_voters (mnd_attempt z2)), .int (mat_bestBallot (mnd_attempt z2)), .int (mat_bestCommand (mnd_attempt z2)), .int (mat_command (mnd_attempt z2))]))]) (km_rVN (n := 1) hE kmG (c_Nd_install l D cI cN cZ a3 (fun j => a2 (j + 1)) z3 (mnd_state z2) _ hw) mw_286 (km_nM hK 17 rfl) mw_285 mp_11 mw_2 (by decide) ⟨rfl, rfl, ⟨by decide, by decide⟩, by decide, by decide⟩ hK (km_cut hP [18, 19, 20, 21, 22, 23, 24, 25, 26, 27, 9, 10, 11] rfl) (hD.sub [18, 19, 20, 21, 22, 23, 24, 25, 26, 27, 9, 10, 11] (by decide) rfl) (ci := 2) rfl hP (q0 := 18) rfl rfl hl.1 rfl (Nat.le_of_ble_eq_true rfl) d_Ch_tell_60) hP hD hS hA [18, 19, 20, 21, 22, 23, 24, 25, 26, 27, 9, 10, 11] [0, 1, 2, 3, 4, 5, 6, 7, 8, 12, 13, 14, 15, 16, 17] rfl rfl (by decide) (by decide) (fun r8 ⟨u9, u10⟩ H locs hw hP hD hS => ?_)
            have hP := hP.sub (ws' := (mchW cI cN cZ a1 g z1 ++ mndW cI cN cZ a2 (mnd_s_state z2 u10) ++ mndW cI cN cZ a3 u9)) [0, 1, 2, 3, 4, 5, 6, 7, 8, 25, 26, 27, 9, 10, 11, 12, 13, 14, 15, 16, 17, 18, 19, 20, 21, 22, 23, 24] rfl
            have hD := hD.sub (ws' := (mchW cI cN cZ a1 g z1 ++ mndW cI cN cZ a2 (mnd_s_state z2 u10) ++ mndW cI cN cZ a3 u9)) [0, 1, 2, 3, 4, 5, 6, 7, 8, 25, 26, 27, 9, 10, 11, 12, 13, 14, 15, 16, 17, 18, 19, 20, 21, 22, 23, 24] (by decide) rfl
            refine lv_istore (lv' := [(5, .int r8), (4, .ref (a3 0)), (3, .ref (a2 0)), (0, .ref (a1 0)), (1, .int x1), (2, .int x2)]) hx hb d_Ch_tell_63 hl (by decide) rfl (fun ls hl => ?_)
            refine lv_aload hx hb d_Ch_tell_65 (lv_at hl 1 rfl) ?_
            refine lv_aload_n hx hb d_Ch_tell_67 rfl (lv_at hl 2 rfl) ?_
            refine km_ci (wr := [(a1 0, .inr (5, [.ref (a1 1), .ref (a1 2), .ref (a1 6), .ref (a1 7), .int (mch_routerConfiguration z1)])), (a1 1, .inl (cN, 6, .inr (.inr (.inr (.inr g))))), (a1 2, .inr (3, [.ref (a1 3), .ref (a1 4), .ref (a1 5), .int (mbk_count (mch_book z1))])), (a1 3, .inl (cI, 31, .inl (mbk_kinds (mch_book z1)))), (a1 4, .inl (cI, 31, .inl (mbk_keys (mch_book z1)))), (a1 5, .inl (cI, 31, .inl (mbk_numbers (mch_book z1)))), (a1 6, .inl (cI, 31, .inl (mch_heardAnswers z1))), (a1 7, .inl (cI, 31, .inl (mch_heardCounts z1)))]) (km_rVN (n := 1) hE kmG (c_Nd_learnFrom l D cI cN cZ a3 a2 u9 (mnd_s_state z2 u10) _ hw) mw_367 (km_nM hK 31 rfl) mw_366 mp_26 mw_2 (by decide) ⟨rfl, rfl, ⟨by decide, by decide⟩, by decide, by decide⟩ hK (km_cut hP [18, 19, 20, 21, 22, 23, 24, 25, 26, 27, 8, 9, 10, 11, 12, 13, 14, 15, 16, 17] rfl) (hD.sub [18, 19, 20, 21, 22, 23, 24, 25, 26, 27, 8, 9, 10, 11, 12, 13, 14, 15, 16, 17] (by decide) rfl) (ci := 2) rfl hP (q0 := 18) rfl rfl hl.1 rfl (Nat.le_of_ble_eq_true rfl) d_Ch_tell_68) hP hD hS hA [18, 19, 20, 21, 22, 23, 24, 25, 26, 27, 8, 9, 10, 11, 12, 13, 14, 15, 16, 17] [0, 1, 2, 3, 4, 5, 6, 7] rfl rfl (by decide) (by decide) (fun r11 ⟨u12, u13⟩ H locs hw hP hD hS => ?_)
            have hP := hP.sub (ws' := (mchW cI cN cZ a1 g z1 ++ mndW cI cN cZ a2 u13 ++ mndW cI cN cZ a3 u12)) [0, 1, 2, 3, 4, 5, 6, 7, 18, 19, 20, 21, 22, 23, 24, 25, 26, 27, 8, 9, 10, 11, 12, 13, 14, 15, 16, 17] rfl
            have hD := hD.sub (ws' := (mchW cI cN cZ a1 g z1 ++ mndW cI cN cZ a2 u13 ++ mndW cI cN cZ a3 u12)) [0, 1, 2, 3, 4, 5, 6, 7, 18, 19, 20, 21, 22, 23, 24, 25, 26, 27, 8, 9, 10, 11, 12, 13, 14, 15, 16, 17] (by decide) rfl
            refine lv_istore (lv' := [(6, .int r11), (5, .int r8), (4, .ref (a3 0)), (3, .ref (a2 0)), (0, .ref (a1 0)), (1, .int x1), (2, .int x2)]) hx hb d_Ch_tell_71 hl (by decide) rfl (fun ls hl => ?_)
            refine lv_aload hx hb d_Ch_tell_73 (lv_at hl 2 rfl) ?_
            refine lv_aload_n hx hb d_Ch_tell_75 rfl (lv_at hl 4 rfl) ?_
            refine va_get (D := D) (ci := 5) (v := .ref (a1 2)) (C := R_Ch) (T := F_Ch) (N := 5) hx hb hts iw_Ch hown hK.1 hP 0 rfl rfl 1 (by decide) (hts _ mw_179) (fun _ h => h) rfl d_Ch_tell_76 ?_
            refine km_cv (wr := [(a1 0, .inr (5, [.ref (a1 1), .ref (a1 2), .ref (a1 6), .ref (a1 7), .int (mch_routerConfiguration z1)])), (a1 1, .inl (cN, 6, .inr (.inr (.inr (.inr g))))), (a1 6, .inl (cI, 31, .inl (mch_heardAnswers z1))), (a1 7, .inl (cI, 31, .inl (mch_heardCounts z1))), (a2 0, .inr (2, [.int (mnd_number u13), .int (mnd_up u13), .ref (a2 1), .ref (a2 4), .int (mnd_last u13), .int (mnd_retired u13), .ref (a2 8), .int (mnd_pending u13), .ref (a2 9)])), (a2 1, .inr (4, [.int (mst_configuration (mnd_state u13)), .int (mst_membership (mnd_state u13)), .int (mst_executed (mnd_state u13)), .ref (a2 2), .int (mst_doneBits (mnd_state u13)), .ref (a2 3)])), (a2 2, .inl (cI, 4, .inl (mst_values (mnd_state u13)))), (a2 3, .inl (cI, 31, .inl (mst_answers (mnd_state u13)))), (a2 4, .inr (1, [.ref (a2 5), .ref (a2 6), .ref (a2 7)])), (a2 5, .inl (cI, 40, .inl (mlg_promisedBallots (mnd_ledger u13)))), (a2 6, .inl (cI, 40, .inl (mlg_voteBallots (mnd_ledger u13)))), (a2 7, .inl (cI, 40, .inl (mlg_voteCommands (mnd_ledger u13)))), (a2 8, .inl (cI, 9, .inl (mnd_knownCommands u13))), (a2 9, .inr (0, [.int (mat_slot (mnd_attempt u13)), .int (mat_ballot (mnd_attempt u13)), .int (mat_promisers (mnd_attempt u13)), .int (mat_voters (mnd_attempt u13)), .int (mat_bestBallot (mnd_attempt u13)), .int (mat_bestCommand (mnd_attempt u13)), .int (mat_command (mnd_attempt u13))]))]) (km_rVN (n := 1) hE kmG (c_Nd_goOn l D cI cN cZ a3 (fun j => a1 (j + 2)) u12 (mch_book z1) _ hw) mw_341 (km_nM hK 32 rfl) mw_340 mp_21 mw_2 (by decide) ⟨rfl, rfl, ⟨by decide, by decide⟩, by decide, by decide⟩ hK (km_cut hP [18, 19, 20, 21, 22, 23, 24, 25, 26, 27, 2, 3, 4, 5] rfl) (hD.sub [18, 19, 20, 21, 22, 23, 24, 25, 26, 27, 2, 3, 4, 5] (by decide) rfl) (ci := 2) rfl hP (q0 := 18) rfl rfl hl.1 rfl (Nat.le_of_ble_eq_true rfl) d_Ch_tell_79) hP hD hS hA [18, 19, 20, 21, 22, 23, 24, 25, 26, 27, 2, 3, 4, 5] [0, 1, 6, 7, 8, 9, 10, 11, 12, 13, 14, 15, 16, 17] rfl rfl (by decide) (by decide) (fun ⟨u15, u16⟩ H locs hw hP hD hS => ?_)
            have hP := hP.sub (ws' := (mchW cI cN cZ a1 g (mch_s_book z1 u16) ++ mndW cI cN cZ a2 u13 ++ mndW cI cN cZ a3 u15)) [0, 1, 24, 25, 26, 27, 2, 3, 4, 5, 6, 7, 8, 9, 10, 11, 12, 13, 14, 15, 16, 17, 18, 19, 20, 21, 22, 23] rfl
            have hD := hD.sub (ws' := (mchW cI cN cZ a1 g (mch_s_book z1 u16) ++ mndW cI cN cZ a2 u13 ++ mndW cI cN cZ a3 u15)) [0, 1, 24, 25, 26, 27, 2, 3, 4, 5, 6, 7, 8, 9, 10, 11, 12, 13, 14, 15, 16, 17, 18, 19, 20, 21, 22, 23] (by decide) rfl
            refine lv_iload hx hb d_Ch_tell_82 (lv_at hl 1 rfl) ?_
            refine lv_if_ne (tgt := 92) hx hb d_Ch_tell_84 (by first | rfl | decide) (fun h17 => ?_) (fun h17 => ?_)
            · have hw := hw.2 h17
              refine lv_iconst (v := (1 : Int32)) hx hb d_Ch_tell_92 (by decide) ?_
              refine lv_goto (tgt := 97) hx hb d_Ch_tell_93 (by first | rfl | decide) ?_
              exact W.iret (v := (1 : Int32)) hx hb hr (fun t ht hW => ⟨⟨(1 : Int32), ((mch_s_book z1 u16), u13, u15), rfl, hw, by rw [ht]; exact hP, hD⟩, hS.F ht⟩) hS.2.2 d_Ch_tell_97
            · have hw := hw.1 h17
              refine lv_iload hx hb d_Ch_tell_87 (lv_at hl 0 rfl) ?_
              refine lv_if_eq (tgt := 96) hx hb d_Ch_tell_89 (by first | rfl | decide) (fun h18 => ?_) (fun h18 => ?_)
              · have hw := hw.1 h18
                refine lv_iconst (v := (3 : Int32)) hx hb d_Ch_tell_96 (by decide) ?_
                exact W.iret (v := (3 : Int32)) hx hb hr (fun t ht hW => ⟨⟨(3 : Int32), ((mch_s_book z1 u16), u13, u15), rfl, hw, by rw [ht]; exact hP, hD⟩, hS.F ht⟩) hS.2.2 d_Ch_tell_97
              · have hw := hw.2 h18
                refine lv_iconst (v := (1 : Int32)) hx hb d_Ch_tell_92 (by decide) ?_
                refine lv_goto (tgt := 97) hx hb d_Ch_tell_93 (by first | rfl | decide) ?_
                exact W.iret (v := (1 : Int32)) hx hb hr (fun t ht hW => ⟨⟨(1 : Int32), ((mch_s_book z1 u16), u13, u15), rfl, hw, by rw [ht]; exact hP, hD⟩, hS.F ht⟩) hS.2.2 d_Ch_tell_97
          · have hw := hw.1 h7
            refine lv_bipush (v := (-2 : Int32)) hx hb d_Ch_tell_51 (by decide) ?_
            exact W.iret (v := (-2 : Int32)) hx hb hr (fun t ht hW => ⟨⟨(-2 : Int32), (z1, z2, z3), rfl, hw, by rw [ht]; exact hP, hD⟩, hS.F ht⟩) hS.2.2 d_Ch_tell_53
      · have hw := hw.1 h5
        refine lv_iconst (v := (-1 : Int32)) hx hb d_Ch_tell_19 (by decide) ?_
        exact W.iret (v := (-1 : Int32)) hx hb hr (fun t ht hW => ⟨⟨(-1 : Int32), (z1, z2, z3), rfl, hw, by rw [ht]; exact hP, hD⟩, hS.F ht⟩) hS.2.2 d_Ch_tell_20
