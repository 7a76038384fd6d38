theorem d_Ch_refusalOf_0 : decode b_Ch_refusalOf 0 = .ok (.aload_n 0, 1) := by decide +kernel
theorem d_Ch_refusalOf_1 : decode b_Ch_refusalOf 1 = .ok (.getfield 61, 3) := by decide +kernel
theorem d_Ch_refusalOf_4 : decode b_Ch_refusalOf 4 = .ok (.getfield 65, 3) := by decide +kernel
theorem d_Ch_refusalOf_7 : decode b_Ch_refusalOf 7 = .ok (.istore_n 3, 1) := by decide +kernel
theorem d_Ch_refusalOf_8 : decode b_Ch_refusalOf 8 = .ok (.aload_n 1, 1) := by decide +kernel
theorem d_Ch_refusalOf_9 : decode b_Ch_refusalOf 9 = .ok (.getfield 172, 3) := by decide +kernel
theorem d_Ch_refusalOf_12 : decode b_Ch_refusalOf 12 = .ok (.iload_n 3, 1) := by decide +kernel
theorem d_Ch_refusalOf_13 : decode b_Ch_refusalOf 13 = .ok (.if_icmp .le 18, 3) := by decide +kernel
theorem d_Ch_refusalOf_16 : decode b_Ch_refusalOf 16 = .ok (.iload_n 2, 1) := by decide +kernel
theorem d_Ch_refusalOf_17 : decode b_Ch_refusalOf 17 = .ok (.ifCond .eq 12, 3) := by decide +kernel
theorem d_Ch_refusalOf_20 : decode b_Ch_refusalOf 20 = .ok (.aload_n 0, 1) := by decide +kernel
theorem d_Ch_refusalOf_21 : decode b_Ch_refusalOf 21 = .ok (.aload_n 1, 1) := by decide +kernel
theorem d_Ch_refusalOf_22 : decode b_Ch_refusalOf 22 = .ok (.getfield 61, 3) := by decide +kernel
theorem d_Ch_refusalOf_25 : decode b_Ch_refusalOf 25 = .ok (.invokevirtual 157, 3) := by decide +kernel
theorem d_Ch_refusalOf_28 : decode b_Ch_refusalOf 28 = .ok (.pop, 1) := by decide +kernel
theorem d_Ch_refusalOf_29 : decode b_Ch_refusalOf 29 = .ok (.iconst 3, 1) := by decide +kernel
theorem d_Ch_refusalOf_30 : decode b_Ch_refusalOf 30 = .ok (.ireturn, 1) := by decide +kernel
theorem d_Ch_refusalOf_31 : decode b_Ch_refusalOf 31 = .ok (.iload_n 3, 1) := by decide +kernel
theorem d_Ch_refusalOf_32 : decode b_Ch_refusalOf 32 = .ok (.aload_n 0, 1) := by decide +kernel
theorem d_Ch_refusalOf_33 : decode b_Ch_refusalOf 33 = .ok (.getfield 92, 3) := by decide +kernel
theorem d_Ch_refusalOf_36 : decode b_Ch_refusalOf 36 = .ok (.getfield 109, 3) := by decide +kernel
theorem d_Ch_refusalOf_39 : decode b_Ch_refusalOf 39 = .ok (.invokestatic 112, 3) := by decide +kernel
theorem d_Ch_refusalOf_42 : decode b_Ch_refusalOf 42 = .ok (.istore 4, 2) := by decide +kernel
theorem d_Ch_refusalOf_44 : decode b_Ch_refusalOf 44 = .ok (.aload_n 1, 1) := by decide +kernel
theorem d_Ch_refusalOf_45 : decode b_Ch_refusalOf 45 = .ok (.getfield 118, 3) := by decide +kernel
theorem d_Ch_refusalOf_48 : decode b_Ch_refusalOf 48 = .ok (.getfield 122, 3) := by decide +kernel
theorem d_Ch_refusalOf_51 : decode b_Ch_refusalOf 51 = .ok (.iload 4, 2) := by decide +kernel
theorem d_Ch_refusalOf_53 : decode b_Ch_refusalOf 53 = .ok (.iaload, 1) := by decide +kernel
theorem d_Ch_refusalOf_54 : decode b_Ch_refusalOf 54 = .ok (.istore 5, 2) := by decide +kernel
theorem d_Ch_refusalOf_56 : decode b_Ch_refusalOf 56 = .ok (.aload_n 0, 1) := by decide +kernel
theorem d_Ch_refusalOf_57 : decode b_Ch_refusalOf 57 = .ok (.getfield 92, 3) := by decide +kernel
theorem d_Ch_refusalOf_60 : decode b_Ch_refusalOf 60 = .ok (.getfield 125, 3) := by decide +kernel
theorem d_Ch_refusalOf_63 : decode b_Ch_refusalOf 63 = .ok (.iload 5, 2) := by decide +kernel
theorem d_Ch_refusalOf_65 : decode b_Ch_refusalOf 65 = .ok (.if_icmp .ge 22, 3) := by decide +kernel
theorem d_Ch_refusalOf_68 : decode b_Ch_refusalOf 68 = .ok (.iload_n 2, 1) := by decide +kernel
theorem d_Ch_refusalOf_69 : decode b_Ch_refusalOf 69 = .ok (.ifCond .eq 16, 3) := by decide +kernel
theorem d_Ch_refusalOf_72 : decode b_Ch_refusalOf 72 = .ok (.aload_n 0, 1) := by decide +kernel
theorem d_Ch_refusalOf_73 : decode b_Ch_refusalOf 73 = .ok (.aload_n 0, 1) := by decide +kernel
theorem d_Ch_refusalOf_74 : decode b_Ch_refusalOf 74 = .ok (.getfield 89, 3) := by decide +kernel
theorem d_Ch_refusalOf_77 : decode b_Ch_refusalOf 77 = .ok (.iload 5, 2) := by decide +kernel
theorem d_Ch_refusalOf_79 : decode b_Ch_refusalOf 79 = .ok (.invokestatic 200, 3) := by decide +kernel
theorem d_Ch_refusalOf_82 : decode b_Ch_refusalOf 82 = .ok (.putfield 89, 3) := by decide +kernel
theorem d_Ch_refusalOf_85 : decode b_Ch_refusalOf 85 = .ok (.iconst 2, 1) := by decide +kernel
theorem d_Ch_refusalOf_86 : decode b_Ch_refusalOf 86 = .ok (.ireturn, 1) := by decide +kernel
theorem d_Ch_refusalOf_87 : decode b_Ch_refusalOf 87 = .ok (.iconst 0, 1) := by decide +kernel
theorem d_Ch_refusalOf_88 : decode b_Ch_refusalOf 88 = .ok (.ireturn, 1) := by decide +kernel
theorem d_Ch_ask_0 : decode b_Ch_ask 0 = .ok (.iload_n 1, 1) := by decide +kernel
theorem d_Ch_ask_1 : decode b_Ch_ask 1 = .ok (.ifCond .lt 15, 3) := by decide +kernel
theorem d_Ch_ask_4 : decode b_Ch_ask 4 = .ok (.iload_n 1, 1) := by decide +kernel
theorem d_Ch_ask_5 : decode b_Ch_ask 5 = .ok (.iconst 3, 1) := by decide +kernel
theorem d_Ch_ask_6 : decode b_Ch_ask 6 = .ok (.if_icmp .gt 10, 3) := by decide +kernel
theorem d_Ch_ask_9 : decode b_Ch_ask 9 = .ok (.iload_n 2, 1) := by decide +kernel
theorem d_Ch_ask_10 : decode b_Ch_ask 10 = .ok (.invokestatic 36, 3) := by decide +kernel
theorem d_Ch_ask_13 : decode b_Ch_ask 13 = .ok (.ifCond .ne 5, 3) := by decide +kernel
theorem d_Ch_ask_16 : decode b_Ch_ask 16 = .ok (.iconst (-1), 1) := by decide +kernel
theorem d_Ch_ask_17 : decode b_Ch_ask 17 = .ok (.ireturn, 1) := by decide +kernel
theorem d_Ch_ask_18 : decode b_Ch_ask 18 = .ok (.iload_n 1, 1) := by decide +kernel
theorem d_Ch_ask_19 : decode b_Ch_ask 19 = .ok (.iconst 3, 1) := by decide +kernel
theorem d_Ch_ask_20 : decode b_Ch_ask 20 = .ok (.if_icmp .ne 12, 3) := by decide +kernel
theorem d_Ch_ask_23 : decode b_Ch_ask 23 = .ok (.iload_n 3, 1) := by decide +kernel
theorem d_Ch_ask_24 : decode b_Ch_ask 24 = .ok (.invokestatic 40, 3) := by decide +kernel
theorem d_Ch_ask_27 : decode b_Ch_ask 27 = .ok (.ifCond .ne 5, 3) := by decide +kernel
theorem d_Ch_ask_30 : decode b_Ch_ask 30 = .ok (.iconst (-1), 1) := by decide +kernel
theorem d_Ch_ask_31 : decode b_Ch_ask 31 = .ok (.ireturn, 1) := by decide +kernel
theorem d_Ch_ask_32 : decode b_Ch_ask 32 = .ok (.aload_n 0, 1) := by decide +kernel
theorem d_Ch_ask_33 : decode b_Ch_ask 33 = .ok (.getfield 21, 3) := by decide +kernel
theorem d_Ch_ask_36 : decode b_Ch_ask 36 = .ok (.invokevirtual 43, 3) := by decide +kernel
theorem d_Ch_ask_39 : decode b_Ch_ask 39 = .ok (.ifCond .eq 7, 3) := by decide +kernel
theorem d_Ch_ask_42 : decode b_Ch_ask 42 = .ok (.iconst (-1), 1) := by decide +kernel
theorem d_Ch_ask_43 : decode b_Ch_ask 43 = .ok (.goto 13, 3) := by decide +kernel
theorem d_Ch_ask_46 : decode b_Ch_ask 46 = .ok (.aload_n 0, 1) := by decide +kernel
theorem d_Ch_ask_47 : decode b_Ch_ask 47 = .ok (.getfield 21, 3) := by decide +kernel
theorem d_Ch_ask_50 : decode b_Ch_ask 50 = .ok (.iload_n 1, 1) := by decide +kernel
theorem d_Ch_ask_51 : decode b_Ch_ask 51 = .ok (.iload_n 2, 1) := by decide +kernel
theorem d_Ch_ask_52 : decode b_Ch_ask 52 = .ok (.iload_n 3, 1) := by decide +kernel
theorem d_Ch_ask_53 : decode b_Ch_ask 53 = .ok (.invokevirtual 47, 3) := by decide +kernel
theorem d_Ch_ask_56 : decode b_Ch_ask 56 = .ok (.ireturn, 1) := by decide +kernel
theorem d_Ch_router_0 : decode b_Ch_router 0 = .ok (.aload_n 0, 1) := by decide +kernel
theorem d_Ch_router_1 : decode b_Ch_router 1 = .ok (.getfield 32, 3) := by decide +kernel
theorem d_Ch_router_4 : decode b_Ch_router 4 = .ok (.ireturn, 1) := by decide +kernel
theorem d_Ch_reply_0 : decode b_Ch_reply 0 = .ok (.aload_n 0, 1) := by decide +kernel
theorem d_Ch_reply_1 : decode b_Ch_reply 1 = .ok (.getfield 21, 3) := by decide +kernel
theorem d_Ch_reply_4 : decode b_Ch_reply 4 = .ok (.iload_n 1, 1) := by decide +kernel
theorem d_Ch_reply_5 : decode b_Ch_reply 5 = .ok (.invokevirtual 51, 3) := by decide +kernel
theorem d_Ch_reply_8 : decode b_Ch_reply 8 = .ok (.ifCond .eq 12, 3) := by decide +kernel
theorem d_Ch_reply_11 : decode b_Ch_reply 11 = .ok (.aload_n 0, 1) := by decide +kernel
theorem d_Ch_reply_12 : decode b_Ch_reply 12 = .ok (.getfield 25, 3) := by decide +kernel
theorem d_Ch_reply_15 : decode b_Ch_reply 15 = .ok (.iload_n 1, 1) := by decide +kernel
theorem d_Ch_reply_16 : decode b_Ch_reply 16 = .ok (.iaload, 1) := by decide +kernel
theorem d_Ch_reply_17 : decode b_Ch_reply 17 = .ok (.goto 4, 3) := by decide +kernel
theorem d_Ch_reply_20 : decode b_Ch_reply 20 = .ok (.iconst 0, 1) := by decide +kernel
theorem d_Ch_reply_21 : decode b_Ch_reply 21 = .ok (.ireturn, 1) := by decide +kernel
theorem d_Ch_heard_0 : decode b_Ch_heard 0 = .ok (.aload_n 0, 1) := by decide +kernel
theorem d_Ch_heard_1 : decode b_Ch_heard 1 = .ok (.getfield 21, 3) := by decide +kernel
theorem d_Ch_heard_4 : decode b_Ch_heard 4 = .ok (.iload_n 1, 1) := by decide +kernel
theorem d_Ch_heard_5 : decode b_Ch_heard 5 = .ok (.invokevirtual 51, 3) := by decide +kernel
theorem d_Ch_heard_8 : decode b_Ch_heard 8 = .ok (.ifCond .eq 12, 3) := by decide +kernel
theorem d_Ch_heard_11 : decode b_Ch_heard 11 = .ok (.aload_n 0, 1) := by decide +kernel
theorem d_Ch_heard_12 : decode b_Ch_heard 12 = .ok (.getfield 29, 3) := by decide +kernel
theorem d_Ch_heard_15 : decode b_Ch_heard 15 = .ok (.iload_n 1, 1) := by decide +kernel
theorem d_Ch_heard_16 : decode b_Ch_heard 16 = .ok (.iaload, 1) := by decide +kernel
theorem d_Ch_heard_17 : decode b_Ch_heard 17 = .ok (.goto 4, 3) := by decide +kernel
theorem d_Ch_heard_20 : decode b_Ch_heard 20 = .ok (.iconst 0, 1) := by decide +kernel
theorem d_Ch_heard_21 : decode b_Ch_heard 21 = .ok (.ireturn, 1) := by decide +kernel
def wp_Ch_refusalOf (z1 : MndT) (z2 : MndT) (x1 : Int32) (post : Int32 → MndT → MndT → Prop) : Prop := (∀ v1 : Int32, v1 = (mst_configuration (mnd_state z1)) → (((mnd_retired z2) ≤ v1 → (wp_Lg_cellOf v1 (mat_slot (mnd_attempt z1)) (fun (r3 : Int32) => (vp_in r3 40 ∧ (∀ v4 : Int32, v4 = ((mlg_promisedBallots (mnd_ledger z2)) (r3).toNatClampNeg) → ((v4 ≤ (mat_ballot (mnd_attempt z1)) → (post (0 : Int32) z1 z2)) ∧ (¬ v4 ≤ (mat_ballot (mnd_attempt z1)) → ((x1 = (0 : Int32) → (post (2 : Int32) z1 z2)) ∧ (¬ x1 = (0 : Int32) → (post (2 : Int32) (mnd_s_last z1 (if (mnd_last z1) < v4 then v4 else (mnd_last z1))) z2)))))))))) ∧ (¬ (mnd_retired z2) ≤ v1 → ((x1 = (0 : Int32) → (post (3 : Int32) z1 z2)) ∧ (¬ x1 = (0 : Int32) → (wp_Nd_install z1 (mnd_state z2) (fun (r8 : Int32) (u9 : MndT) (u10 : MstT) => (post (3 : Int32) u9 (mnd_s_state z2 u10)))))))))
abbrev rm_Ch_refusalOf : Room := { frames := 4, cells := 0, slots := 0, locals := 83 }
def wp_Ch_refusalOf_al (z1 : MndT) (x1 : Int32) (post : Int32 → MndT → Prop) : Prop := (∀ v1 : Int32, v1 = (mst_configuration (mnd_state z1)) → (((mnd_retired z1) ≤ v1 → (wp_Lg_cellOf v1 (mat_slot (mnd_attempt z1)) (fun (r3 : Int32) => (vp_in r3 40 ∧ (∀ v4 : Int32, v4 = ((mlg_promisedBallots (mnd_ledger z1)) (r3).toNatClampNeg) → ((v4 ≤ (mat_ballot (mnd_attempt z1)) → (post (0 : Int32) z1)) ∧ (¬ v4 ≤ (mat_ballot (mnd_attempt z1)) → ((x1 = (0 : Int32) → (post (2 : Int32) z1)) ∧ (¬ x1 = (0 : Int32) → (post (2 : Int32) (mnd_s_last z1 (if (mnd_last z1) < v4 then v4 else (mnd_last z1))))))))))))) ∧ (¬ (mnd_retired z1) ≤ v1 → False)))
abbrev rm_Ch_refusalOf_al : Room := { frames := 1, cells := 0, slots := 0, locals := 21 }
def wp_Ch_ask (z1 : MchT) (x1 : Int32) (x2 : Int32) (x3 : Int32) (post : Int32 → MchT → Prop) : Prop := ((x1 < (0 : Int32) → (post (-1 : Int32) z1)) ∧ (¬ x1 < (0 : Int32) → (((3 : Int32) < x1 → (post (-1 : Int32) z1)) ∧ (¬ (3 : Int32) < x1 → (wp_Ch_isKey x2 (fun (r3 : Int32) => ((r3 = (0 : Int32) → (post (-1 : Int32) z1)) ∧ (¬ r3 = (0 : Int32) → ((x1 = (3 : Int32) → (wp_Ch_isMembership x3 (fun (r11 : Int32) => ((r11 = (0 : Int32) → (post (-1 : Int32) z1)) ∧ (¬ r11 = (0 : Int32) → (wp_Bk_isFull (mch_book z1) (fun (r13 : Int32) (u14 : MbkT) => ((r13 = (0 : Int32) → (wp_Bk_add u14 x1 x2 x3 (fun (r16 : Int32) (u17 : MbkT) => (post r16 (mch_s_book (mch_s_book z1 u14) u17))))) ∧ (¬ r13 = (0 : Int32) → (post (-1 : Int32) (mch_s_book z1 u14))))))))))) ∧ (¬ x1 = (3 : Int32) → (wp_Bk_isFull (mch_book z1) (fun (r6 : Int32) (u7 : MbkT) => ((r6 = (0 : Int32) → (wp_Bk_add u7 x1 x2 x3 (fun (r9 : Int32) (u10 : MbkT) => (post r9 (mch_s_book (mch_s_book z1 u7) u10))))) ∧ (¬ r6 = (0 : Int32) → (post (-1 : Int32) (mch_s_book z1 u7))))))))))))))))
abbrev rm_Ch_ask : Room := { frames := 2, cells := 0, slots := 0, locals := 41 }
def wp_Ch_router (z1 : MchT) (post : Int32 → MchT → Prop) : Prop := (post (mch_routerConfiguration z1) z1)
abbrev rm_Ch_router : Room := { frames := 0, cells := 0, slots := 0, locals := 0 }
def wp_Ch_reply (z1 : MchT) (x1 : Int32) (post : Int32 → MchT → Prop) : Prop := (wp_Bk_has (mch_book z1) x1 (fun (r1 : Int32) (u2 : MbkT) => ((r1 = (0 : Int32) → (post (0 : Int32) (mch_s_book z1 u2))) ∧ (¬ r1 = (0 : Int32) → (vp_in x1 31 ∧ (post ((mch_heardAnswers z1) (x1).toNatClampNeg) (mch_s_book z1 u2)))))))
abbrev rm_Ch_reply : Room := { frames := 1, cells := 0, slots := 0, locals := 21 }
def wp_Ch_heard (z1 : MchT) (x1 : Int32) (post : Int32 → MchT → Prop) : Prop := (wp_Bk_has (mch_book z1) x1 (fun (r1 : Int32) (u2 : MbkT) => ((r1 = (0 : Int32) → (post (0 : Int32) (mch_s_book z1 u2))) ∧ (¬ r1 = (0 : Int32) → (vp_in x1 31 ∧ (post ((mch_heardCounts z1) (x1).toNatClampNeg) (mch_s_book z1 u2)))))))
abbrev rm_Ch_heard : Room := { frames := 1, cells := 0, slots := 0, locals := 21 }
set_option maxHeartbeats 4000000 in
set_option maxRecDepth 100000 in
theorem c_Ch_refusalOf (l : Launch) (D : va_G) (cI cN cZ : ClassId) (a1 : Nat → Nat) (a2 : Nat → Nat) (z1 : MndT) (z2 : MndT) (x1 : Int32) (post : Int32 → MndT → MndT → Prop) (hw : wp_Ch_refusalOf z1 z2 x1 post) : km_I l y_Ch_refusalOf (.code y_Ch_refusalOf b_Ch_refusalOf 6 (some .int) :: kmW) rm_Ch_refusalOf D kmC (kmT cI cN cZ) kmF kmM [.ref (a1 0), .ref (a2 0), .int x1] (mndW cI cN cZ a1 z1 ++ mndW cI cN cZ a2 z2) (fun (r : Int32) (u : MndT × MndT) => post r u.1 u.2) (fun (u : MndT × MndT) => (mndW cI cN cZ a1 u.1 ++ mndW cI cN cZ a2 u.2)) 0 0 := by
  refine km_startI (cc := b_Ch_refusalOf) (maxL := 6) (ret := (some .int)) (by decide) rfl (Nat.le_of_ble_eq_true rfl) ?_
  intro p e s m below meth c A ls hE hA hK hP hD hS hl
  obtain ⟨hx, hb, hr, hml, hown, hts0, hlk, hnm⟩ := id hE
  have hts : ∀ w ∈ kmW, w.before ([.ref (a1 0), .ref (a2 0), .int x1] : List Value).toArray s = true := fun w h => hts0 w (List.mem_cons_of_mem _ h)
  have hP : va_P D kmC (mndW cI cN cZ a1 z1 ++ mndW cI cN cZ a2 z2) s.heap := hP
  have hl : lv_has ls 6 [(0, .ref (a1 0)), (1, .ref (a2 0)), (2, .int x1)] := hl
  unfold wp_Ch_refusalOf at hw
  refine lv_aload_n hx hb d_Ch_refusalOf_0 rfl (lv_at hl 0 rfl) ?_
  refine va_getN (D := D) (ci := 2) (v := .ref (a1 1)) (C := R_Nd) (T := F_Nd) (N := 9) hx hb hts iw_Nd hown hK.1 hP 0 rfl rfl 2 (by decide) (km_nF hK 21 rfl) (fun _ h => h) rfl d_Ch_refusalOf_1 ?_
  refine va_getN (D := D) (ci := 4) (v := .int (mst_configuration (mnd_state z1))) (C := R_St) (T := F_St) (N := 6) hx hb hts iw_St hown hK.1 hP 1 rfl rfl 0 (by decide) (km_nF hK 0 rfl) (fun _ h => h) rfl d_Ch_refusalOf_4 ?_
  refine lv_topi (fun v1 ev1 => ?_)
  have hw := hw v1 ev1
  refine lv_istore_n (lv' := [(3, .int v1), (0, .ref (a1 0)), (1, .ref (a2 0)), (2, .int x1)]) hx hb d_Ch_refusalOf_7 rfl hl (by decide) rfl (fun ls hl => ?_)
  refine lv_aload_n hx hb d_Ch_refusalOf_8 rfl (lv_at hl 2 rfl) ?_
  refine va_getN (D := D) (ci := 2) (v := .int (mnd_retired z2)) (C := R_Nd) (T := F_Nd) (N := 9) hx hb hts iw_Nd hown hK.1 hP 10 rfl rfl 5 (by decide) (km_nF hK 24 rfl) (fun _ h => h) rfl d_Ch_refusalOf_9 ?_
  refine lv_iload_n hx hb d_Ch_refusalOf_12 rfl (lv_at hl 0 rfl) ?_
  refine lv_icmp_le (tgt := 31) hx hb d_Ch_refusalOf_13 (by first | rfl | decide) (fun h2 => ?_) (fun h2 => ?_)
  · have hw := hw.1 h2
    refine lv_iload_n hx hb d_Ch_refusalOf_31 rfl (lv_at hl 0 rfl) ?_
    refine lv_aload_n hx hb d_Ch_refusalOf_32 rfl (lv_at hl 1 rfl) ?_
    refine va_getN (D := D) (ci := 2) (v := .ref (a1 9)) (C := R_Nd) (T := F_Nd) (N := 9) hx hb hts iw_Nd hown hK.1 hP 0 rfl rfl 8 (by decide) (km_nF hK 27 rfl) (fun _ h => h) rfl d_Ch_refusalOf_33 ?_
    refine va_getN (D := D) (ci := 0) (v := .int (mat_slot (mnd_attempt z1))) (C := R_At) (T := F_At) (N := 7) hx hb hts iw_At hown hK.1 hP 9 rfl rfl 0 (by decide) (km_nF hK 10 rfl) (fun _ h => h) rfl d_Ch_refusalOf_36 ?_
    refine km_ci (wr := [(a1 0, .inr (2, [.int (mnd_number z1), .int (mnd_up z1), .ref (a1 1), .ref (a1 4), .int (mnd_last z1), .int (mnd_retired z1), .ref (a1 8), .int (mnd_pending z1), .ref (a1 9)])), (a1 1, .inr (4, [.int (mst_configuration (mnd_state z1)), .int (mst_membership (mnd_state z1)), .int (mst_executed (mnd_state z1)), .ref (a1 2), .int (mst_doneBits (mnd_state z1)), .ref (a1 3)])), (a1 2, .inl (cI, 4, .inl (mst_values (mnd_state z1)))), (a1 3, .inl (cI, 31, .inl (mst_answers (mnd_state z1)))), (a1 4, .inr (1, [.ref (a1 5), .ref (a1 6), .ref (a1 7)])), (a1 5, .inl (cI, 40, .inl (mlg_promisedBallots (mnd_ledger z1)))), (a1 6, .inl (cI, 40, .inl (mlg_voteBallots (mnd_ledger z1)))), (a1 7, .inl (cI, 40, .inl (mlg_voteCommands (mnd_ledger z1)))), (a1 8, .inl (cI, 9, .inl (mnd_knownCommands z1))), (a1 9, .inr (0, [.int (mat_slot (mnd_attempt z1)), .int (mat_ballot (mnd_attempt z1)), .int (mat_promisers (mnd_attempt z1)), .int (mat_voters (mnd_attempt z1)), .int (mat_bestBallot (mnd_attempt z1)), .int (mat_bestCommand (mnd_attempt z1)), .int (mat_command (mnd_attempt z1))])), (a2 0, .inr (2, [.int (mnd_number z2), .int (mnd_up z2), .ref (a2 1), .ref (a2 4), .int (mnd_last z2), .int (mnd_retired z2), .ref (a2 8), .int (mnd_pending z2), .ref (a2 9)])), (a2 1, .inr (4, [.int (mst_configuration (mnd_state z2)), .int (mst_membership (mnd_state z2)), .int (mst_executed (mnd_state z2)), .ref (a2 2), .int (mst_doneBits (mnd_state z2)), .ref (a2 3)])), (a2 2, .inl (cI, 4, .inl (mst_values (mnd_state z2)))), (a2 3, .inl (cI, 31, .inl (mst_answers (mnd_state z2)))), (a2 4, .inr (1, [.ref (a2 5), .ref (a2 6), .ref (a2 7)])), (a2 5, .inl (cI, 40, .inl (mlg_promisedBallots (mnd_ledger z2)))), (a2 6, .inl (cI, 40, .inl (mlg_voteBallots (mnd_ledger z2)))), (a2 7, .inl (cI, 40, .inl (mlg_voteCommands (mnd_ledger z2)))), (a2 8, .inl (cI, 9, .inl (mnd_knownCommands z2))), (a2 9, .inr (0, [.int (mat_slot (mnd_attempt z2)), .int (mat_ballot (mnd_attempt z2)), .int (mat_promisers (mnd_attempt z2)), .int (mat_voters (mnd_attempt z2)), .int (mat_bestBallot (mnd_attempt z2)), .int (mat_bestCommand (mnd_attempt z2)), .int (mat_command (mnd_attempt z2))]))]) (km_rSN (n := 2) hE kmG (c_Lg_cellOf l D cI cN cZ v1 (mat_slot (mnd_attempt z1)) _ hw) mw_309 (km_nM hK 21 rfl) mw_308 mw_4 (by decide) ⟨rfl, rfl, ⟨by decide, by decide⟩, by decide, by decide⟩ hK (km_cut hP [] rfl) (hD.sub [] (by decide) rfl) rfl hl.1 rfl (Nat.le_of_ble_eq_true rfl) d_Ch_refusalOf_39) hP hD hS hA [] [0, 1, 2, 3, 4, 5, 6, 7, 8, 9, 10, 11, 12, 13, 14, 15, 16, 17, 18, 19] rfl rfl (by decide) (by decide) (fun r3 _ H locs hw hP hD hS => ?_)
    have hP := hP.sub (ws' := (mndW cI cN cZ a1 z1 ++ mndW cI cN cZ a2 z2)) [0, 1, 2, 3, 4, 5, 6, 7, 8, 9, 10, 11, 12, 13, 14, 15, 16, 17, 18, 19] rfl
    have hD := hD.sub (ws' := (mndW cI cN cZ a1 z1 ++ mndW cI cN cZ a2 z2)) [0, 1, 2, 3, 4, 5, 6, 7, 8, 9, 10, 11, 12, 13, 14, 15, 16, 17, 18, 19] (by decide) rfl
    refine lv_istore (lv' := [(4, .int r3), (3, .int v1), (0, .ref (a1 0)), (1, .ref (a2 0)), (2, .int x1)]) hx hb d_Ch_refusalOf_42 hl (by decide) rfl (fun ls hl => ?_)
    refine lv_aload_n hx hb d_Ch_refusalOf_44 rfl (lv_at hl 3 rfl) ?_
    refine va_getN (D := D) (ci := 2) (v := .ref (a2 4)) (C := R_Nd) (T := F_Nd) (N := 9) hx hb hts iw_Nd hown hK.1 hP 10 rfl rfl 3 (by decide) (km_nF hK 22 rfl) (fun _ h => h) rfl d_Ch_refusalOf_45 ?_
    refine va_getN (D := D) (ci := 1) (v := .ref (a2 5)) (C := R_Lg) (T := F_Lg) (N := 3) hx hb hts iw_Lg hown hK.1 hP 14 rfl rfl 0 (by decide) (km_nF hK 7 rfl) (fun _ h => h) rfl d_Ch_refusalOf_48 ?_
    refine lv_iload hx hb d_Ch_refusalOf_51 (lv_at hl 0 rfl) ?_
    obtain ⟨hin, hw⟩ := hw
    refine va_iald (f := (mlg_promisedBallots (mnd_ledger z2))) hx hb hK.1 hP 15 0 rfl rfl hin d_Ch_refusalOf_53 ?_
    refine lv_topi (fun v4 ev4 => ?_)
    have hw := hw v4 ev4
    refine lv_istore (lv' := [(5, .int v4), (4, .int r3), (3, .int v1), (0, .ref (a1 0)), (1, .ref (a2 0)), (2, .int x1)]) hx hb d_Ch_refusalOf_54 hl (by decide) rfl (fun ls hl => ?_)
    refine lv_aload_n hx hb d_Ch_refusalOf_56 rfl (lv_at hl 3 rfl) ?_
    refine va_getN (D := D) (ci := 2) (v := .ref (a1 9)) (C := R_Nd) (T := F_Nd) (N := 9) hx hb hts iw_Nd hown hK.1 hP 0 rfl rfl 8 (by decide) (km_nF hK 27 rfl) (fun _ h => h) rfl d_Ch_refusalOf_57 ?_
    refine va_getN (D := D) (ci := 0) (v := .int (mat_ballot (mnd_attempt z1))) (C := R_At) (T := F_At) (N := 7) hx hb hts iw_At hown hK.1 hP 9 rfl rfl 1 (by decide) (km_nF hK 12 rfl) (fun _ h => h) rfl d_Ch_refusalOf_60 ?_
    refine lv_iload hx hb d_Ch_refusalOf_63 (lv_at hl 0 rfl) ?_
    refine lv_icmp_ge (tgt := 87) hx hb d_Ch_refusalOf_65 (by first | rfl | decide) (fun h5 => ?_) (fun h5 => ?_)
    · have hw := hw.1 h5
      refine lv_iconst (v := (0 : Int32)) hx hb d_Ch_refusalOf_87 (by decide) ?_
      exact W.iret (v := (0 : Int32)) hx hb hr (fun t ht hW => ⟨⟨(0 : Int32), (z1, z2), rfl, hw, by rw [ht]; exact hP, hD⟩, hS.F ht⟩) hS.2.2 d_Ch_refusalOf_88
    · have hw := hw.2 h5
      refine lv_iload_n hx hb d_Ch_refusalOf_68 rfl (lv_at hl 5 rfl) ?_
      refine lv_if_eq (tgt := 85) hx hb d_Ch_refusalOf_69 (by first | rfl | decide) (fun h6 => ?_) (fun h6 => ?_)
      · have hw := hw.1 h6
        refine lv_iconst (v := (2 : Int32)) hx hb d_Ch_refusalOf_85 (by decide) ?_
        exact W.iret (v := (2 : Int32)) hx hb hr (fun t ht hW => ⟨⟨(2 : Int32), (z1, z2), rfl, hw, by rw [ht]; exact hP, hD⟩, hS.F ht⟩) hS.2.2 d_Ch_refusalOf_86
      · have hw := hw.2 h6
        refine lv_aload_n hx hb d_Ch_refusalOf_72 rfl (lv_at hl 3 rfl) ?_
        refine lv_aload_n hx hb d_Ch_refusalOf_73 rfl (lv_at hl 3 rfl) ?_
        refine va_getN (D := D) (ci := 2) (v := .int (mnd_last z1)) (C := R_Nd) (T := F_Nd) (N := 9) hx hb hts iw_Nd hown hK.1 hP 0 rfl rfl 4 (by decide) (km_nF hK 23 rfl) (fun _ h => h) rfl d_Ch_refusalOf_74 ?_
        refine lv_iload hx hb d_Ch_refusalOf_77 (lv_at hl 0 rfl) ?_
        refine va_mmax hx hb (hml.trans hl.1.symm) hown (hts _ mw_310) (hts _ mw_261) (hts _ mw_10) (hts _ mw_262) (Nat.le_of_ble_eq_true rfl) (Nat.le_of_ble_eq_true rfl) (Nat.le_of_ble_eq_true rfl) (Nat.le_of_ble_eq_true rfl) d_Ch_refusalOf_79 ?_
        refine va_putN (D := D) (ci := 2) (v := .int (if (mnd_last z1) < v4 then v4 else (mnd_last z1))) (ty := .int) (C := R_Nd) (T := F_Nd) (N := 9) hx hb hts iw_Nd t_Nd t_Nd_ok n_Nd hown hK.1 hP hD hS 0 rfl rfl 4 (by decide) (km_nF hK 23 rfl) (fun _ h => h) rfl (t_Nd_ok 4 (by decide)) rfl rfl (Nat.le_of_ble_eq_true rfl) d_Ch_refusalOf_82 (fun H locs hP hD hS => ?_)
        have hP : va_P D kmC (mndW cI cN cZ a1 (mnd_s_last z1 (if (mnd_last z1) < v4 then v4 else (mnd_last z1))) ++ mndW cI cN cZ a2 z2) H := hP
        have hD : va_D A (mndW cI cN cZ a1 (mnd_s_last z1 (if (mnd_last z1) < v4 then v4 else (mnd_last z1))) ++ mndW cI cN cZ a2 z2) := hD
        refine lv_iconst (v := (2 : Int32)) hx hb d_Ch_refusalOf_85 (by decide) ?_
        exact W.iret (v := (2 : Int32)) hx hb hr (fun t ht hW => ⟨⟨(2 : Int32), ((mnd_s_last z1 (if (mnd_last z1) < v4 then v4 else (mnd_last z1))), z2), rfl, hw, by rw [ht]; exact hP, hD⟩, hS.F ht⟩) hS.2.2 d_Ch_refusalOf_86
  · have hw := hw.2 h2
    refine lv_iload_n hx hb d_Ch_refusalOf_16 rfl (lv_at hl 3 rfl) ?_
    refine lv_if_eq (tgt := 29) hx hb d_Ch_refusalOf_17 (by first | rfl | decide) (fun h7 => ?_) (fun h7 => ?_)
    · have hw := hw.1 h7
      refine lv_iconst (v := (3 : Int32)) hx hb d_Ch_refusalOf_29 (by decide) ?_
      exact W.iret (v := (3 : Int32)) hx hb hr (fun t ht hW => ⟨⟨(3 : Int32), (z1, z2), rfl, hw, by rw [ht]; exact hP, hD⟩, hS.F ht⟩) hS.2.2 d_Ch_refusalOf_30
    · have hw := hw.2 h7
      refine lv_aload_n hx hb d_Ch_refusalOf_20 rfl (lv_at hl 1 rfl) ?_
      refine lv_aload_n hx hb d_Ch_refusalOf_21 rfl (lv_at hl 2 rfl) ?_
      refine va_getN (D := D) (ci := 2) (v := .ref (a2 1)) (C := R_Nd) (T := F_Nd) (N := 9) hx hb hts iw_Nd hown hK.1 hP 10 rfl rfl 2 (by decide) (km_nF hK 21 rfl) (fun _ h => h) rfl d_Ch_refusalOf_22 ?_
      refine km_ci (wr := [(a2 0, .inr (2, [.int (mnd_number z2), .int (mnd_up z2), .ref (a2 1), .ref (a2 4), .int (mnd_last z2), .int (mnd_retired z2), .ref (a2 8), .int (mnd_pending z2), .ref (a2 9)])), (a2 4, .inr (1, [.ref (a2 5), .ref (a2 6), .ref (a2 7)])), (a2 5, .inl (cI, 40, .inl (mlg_promisedBallots (mnd_ledger z2)))), (a2 6, .inl (cI, 40, .inl (mlg_voteBallots (mnd_ledger z2)))), (a2 7, .inl (cI, 40, .inl (mlg_voteCommands (mnd_ledger z2)))), (a2 8, .inl (cI, 9, .inl (mnd_knownCommands z2))), (a2 9, .inr (0, [.int (mat_slot (mnd_attempt z2)), .int (mat_ballot (mnd_attempt z2)), .int (mat_promisers (mnd_attempt z2)), .int (mat_voters (mnd_attempt z2)), .int (mat_bestBallot (mnd_attempt z2)), .int (mat_bestCommand (mnd_attempt z2)), .int (mat_command (mnd_attempt z2))]))]) (km_rVN (n := 1) hE kmG (c_Nd_install l D cI cN cZ a1 (fun j => a2 (j + 1)) z1 (mnd_state z2) _ hw) mw_286 (km_nM hK 17 rfl) mw_285 mp_11 mw_2 (by decide) ⟨rfl, rfl, ⟨by decide, by decide⟩, by decide, by decide⟩ hK (km_cut hP [0, 1, 2, 3, 4, 5, 6, 7, 8, 9, 11, 12, 13] rfl) (hD.sub [0, 1, 2, 3, 4, 5, 6, 7, 8, 9, 11, 12, 13] (by decide) rfl) (ci := 2) rfl hP (q0 := 0) rfl rfl hl.1 rfl (Nat.le_of_ble_eq_true rfl) d_Ch_refusalOf_25) hP hD hS hA [0, 1, 2, 3, 4, 5, 6, 7, 8, 9, 11, 12, 13] [10, 14, 15, 16, 17, 18, 19] rfl rfl (by decide) (by decide) (fun r8 ⟨u9, u10⟩ H locs hw hP hD hS => ?_)
      have hP := hP.sub (ws' := (mndW cI cN cZ a1 u9 ++ mndW cI cN cZ a2 (mnd_s_state z2 u10))) [7, 8, 9, 10, 11, 12, 13, 14, 15, 16, 0, 17, 18, 19, 1, 2, 3, 4, 5, 6] rfl
      have hD := hD.sub (ws' := (mndW cI cN cZ a1 u9 ++ mndW cI cN cZ a2 (mnd_s_state z2 u10))) [7, 8, 9, 10, 11, 12, 13, 14, 15, 16, 0, 17, 18, 19, 1, 2, 3, 4, 5, 6] (by decide) rfl
      refine lv_pop hx hb d_Ch_refusalOf_28 rfl ?_
      refine lv_iconst (v := (3 : Int32)) hx hb d_Ch_refusalOf_29 (by decide) ?_
      exact W.iret (v := (3 : Int32)) hx hb hr (fun t ht hW => ⟨⟨(3 : Int32), (u9, (mnd_s_state z2 u10)), rfl, hw, by rw [ht]; exact hP, hD⟩, hS.F ht⟩) hS.2.2 d_Ch_refusalOf_30
set_option maxHeartbeats 4000000 in
set_option maxRecDepth 100000 in
theorem c_Ch_refusalOf_al (l : Launch) (D : va_G) (cI cN cZ : ClassId) (a1 : Nat → Nat) (z1 : MndT) (x1 : Int32) (post : Int32 → MndT → Prop) (hw : wp_Ch_refusalOf_al z1 x1 post) : km_I l y_Ch_refusalOf (.code y_Ch_refusalOf b_Ch_refusalOf 6 (some .int) :: kmW) rm_Ch_refusalOf_al D kmC (kmT cI cN cZ) kmF kmM [.ref (a1 0), .ref (a1 0), .int x1] (mndW cI cN cZ a1 z1) (fun (r : Int32) (u : MndT) => post r u) (fun (u : MndT) => (mndW cI cN cZ a1 u)) 0 0 := by
  refine km_startI (cc := b_Ch_refusalOf) (maxL := 6) (ret := (some .int)) (by decide) rfl (Nat.le_of_ble_eq_true rfl) ?_
  intro p e s m below meth c A ls hE hA hK hP hD hS hl
  obtain ⟨hx, hb, hr, hml, hown, hts0, hlk, hnm⟩ := id hE
  have hts : ∀ w ∈ kmW, w.before ([.ref (a1 0), .ref (a1 0), .int x1] : List Value).toArray s = true := fun w h => hts0 w (List.mem_cons_of_mem _ h)
  have hP : va_P D kmC (mndW cI cN cZ a1 z1) s.heap := hP
  have hl : lv_has ls 6 [(0, .ref (a1 0)), (1, .ref (a1 0)), (2, .int x1)] := hl
  unfold wp_Ch_refusalOf_al at hw
  refine lv_aload_n hx hb d_Ch_refusalOf_0 rfl (lv_at hl 0 rfl) ?_
  refine va_getN (D := D) (ci := 2) (v := .ref (a1 1)) (C := R_Nd) (T := F_Nd) (N := 9) hx hb hts iw_Nd hown hK.1 hP 0 rfl rfl 2 (by decide) (km_nF hK 21 rfl) (fun _ h => h) rfl d_Ch_refusalOf_1 ?_
  refine va_getN (D := D) (ci := 4) (v := .int (mst_configuration (mnd_state z1))) (C := R_St) (T := F_St) (N := 6) hx hb hts iw_St hown hK.1 hP 1 rfl rfl 0 (by decide) (km_nF hK 0 rfl) (fun _ h => h) rfl d_Ch_refusalOf_4 ?_
  refine lv_topi (fun v1 ev1 => ?_)
  have hw := hw v1 ev1
  refine lv_istore_n (lv' := [(3, .int v1), (0, .ref (a1 0)), (1, .ref (a1 0)), (2, .int x1)]) hx hb d_Ch_refusalOf_7 rfl hl (by decide) rfl (fun ls hl => ?_)
  refine lv_aload_n hx hb d_Ch_refusalOf_8 rfl (lv_at hl 2 rfl) ?_
  refine va_getN (D := D) (ci := 2) (v := .int (mnd_retired z1)) (C := R_Nd) (T := F_Nd) (N := 9) hx hb hts iw_Nd hown hK.1 hP 0 rfl rfl 5 (by decide) (km_nF hK 24 rfl) (fun _ h => h) rfl d_Ch_refusalOf_9 ?_
  refine lv_iload_n hx hb d_Ch_refusalOf_12 rfl (lv_at hl 0 rfl) ?_
  refine lv_icmp_le (tgt := 31) hx hb d_Ch_refusalOf_13 (by first | rfl | decide) (fun h2 => ?_) (fun h2 => ?_)
  · have hw := hw.1 h2
    refine lv_iload_n hx hb d_Ch_refusalOf_31 rfl (lv_at hl 0 rfl) ?_
    refine lv_aload_n hx hb d_Ch_refusalOf_32 rfl (lv_at hl 1 rfl) ?_
    refine va_getN (D := D) (ci := 2) (v := .ref (a1 9)) (C := R_Nd) (T := F_Nd) (N := 9) hx hb hts iw_Nd hown hK.1 hP 0 rfl rfl 8 (by decide) (km_nF hK 27 rfl) (fun _ h => h) rfl d_Ch_refusalOf_33 ?_
    refine va_getN (D := D) (ci := 0) (v := .int (mat_slot (mnd_attempt z1))) (C := R_At) (T := F_At) (N := 7) hx hb hts iw_At hown hK.1 hP 9 rfl rfl 0 (by decide) (km_nF hK 10 rfl) (fun _ h => h) rfl d_Ch_refusalOf_36 ?_
    refine km_ci (wr := [(a1 0, .inr (2, [.int (mnd_number z1), .int (mnd_up z1), .ref (a1 1), .ref (a1 4), .int (mnd_last z1), .int (mnd_retired z1), .ref (a1 8), .int (mnd_pending z1), .ref (a1 9)])), (a1 1, .inr (4, [.int (mst_configuration (mnd_state z1)), .int (mst_membership (mnd_state z1)), .int (mst_executed (mnd_state z1)), .ref (a1 2), .int (mst_doneBits (mnd_state z1)), .ref (a1 3)])), (a1 2, .inl (cI, 4, .inl (mst_values (mnd_state z1)))), (a1 3, .inl (cI, 31, .inl (mst_answers (mnd_state z1)))), (a1 4, .inr (1, [.ref (a1 5), .ref (a1 6), .ref (a1 7)])), (a1 5, .inl (cI, 40, .inl (mlg_promisedBallots (mnd_ledger z1)))), (a1 6, .inl (cI, 40, .inl (mlg_voteBallots (mnd_ledger z1)))), (a1 7, .inl (cI, 40, .inl (mlg_voteCommands (mnd_ledger z1)))), (a1 8, .inl (cI, 9, .inl (mnd_knownCommands z1))), (a1 9, .inr (0, [.int (mat_slot (mnd_attempt z1)), .int (mat_ballot (mnd_attempt z1)), .int (mat_promisers (mnd_attempt z1)), .int (mat_voters (mnd_attempt z1)), .int (mat_bestBallot (mnd_attempt z1)), .int (mat_bestCommand (mnd_attempt z1)), .int (mat_command (mnd_attempt z1))]))]) (km_rSN (n := 2) hE kmG (c_Lg_cellOf l D cI cN cZ v1 (mat_slot (mnd_attempt z1)) _ hw) mw_309 (km_nM hK 21 rfl) mw_308 mw_4 (by decide) ⟨rfl, rfl, ⟨by decide, by decide⟩, by decide, by decide⟩ hK (km_cut hP [] rfl) (hD.sub [] (by decide) rfl) rfl hl.1 rfl (Nat.le_of_ble_eq_true rfl) d_Ch_refusalOf_39) hP hD hS hA [] [0, 1, 2, 3, 4, 5, 6, 7, 8, 9] rfl rfl (by decide) (by decide) (fun r3 _ H locs hw hP hD hS => ?_)
    have hP := hP.sub (ws' := (mndW cI cN cZ a1 z1)) [0, 1, 2, 3, 4, 5, 6, 7, 8, 9] rfl
    have hD := hD.sub (ws' := (mndW cI cN cZ a1 z1)) [0, 1, 2, 3, 4, 5, 6, 7, 8, 9] (by decide) rfl
    refine lv_istore (lv' := [(4, .int r3), (3, .int v1), (0, .ref (a1 0)), (1, .ref (a1 0)), (2, .int x1)]) hx hb d_Ch_refusalOf_42 hl (by decide) rfl (fun ls hl => ?_)
    refine lv_aload_n hx hb d_Ch_refusalOf_44 rfl (lv_at hl 3 rfl) ?_
    refine va_getN (D := D) (ci := 2) (v := .ref (a1 4)) (C := R_Nd) (T := F_Nd) (N := 9) hx hb hts iw_Nd hown hK.1 hP 0 rfl rfl 3 (by decide) (km_nF hK 22 rfl) (fun _ h => h) rfl d_Ch_refusalOf_45 ?_
    refine va_getN (D := D) (ci := 1) (v := .ref (a1 5)) (C := R_Lg) (T := F_Lg) (N := 3) hx hb hts iw_Lg hown hK.1 hP 4 rfl rfl 0 (by decide) (km_nF hK 7 rfl) (fun _ h => h) rfl d_Ch_refusalOf_48 ?_
    refine lv_iload hx hb d_Ch_refusalOf_51 (lv_at hl 0 rfl) ?_
    obtain ⟨hin, hw⟩ := hw
    refine va_iald (f := (mlg_promisedBallots (mnd_ledger z1))) hx hb hK.1 hP 5 0 rfl rfl hin d_Ch_refusalOf_53 ?_
    refine lv_topi (fun v4 ev4 => ?_)
    have hw := hw v4 ev4
    refine lv_istore (lv' := [(5, .int v4), (4, .int r3), (3, .int v1), (0, .ref (a1 0)), (1, .ref (a1 0)), (2, .int x1)]) hx hb d_Ch_refusalOf_54 hl (by decide) rfl (fun ls hl => ?_)
    refine lv_aload_n hx hb d_Ch_refusalOf_56 rfl (lv_at hl 3 rfl) ?_
    refine va_getN (D := D) (ci := 2) (v := .ref (a1 9)) (C := R_Nd) (T := F_Nd) (N := 9) hx hb hts iw_Nd hown hK.1 hP 0 rfl rfl 8 (by decide) (km_nF hK 27 rfl) (fun _ h => h) rfl d_Ch_refusalOf_57 ?_
    refine va_getN (D := D) (ci := 0) (v := .int (mat_ballot (mnd_attempt z1))) (C := R_At) (T := F_At) (N := 7) hx hb hts iw_At hown hK.1 hP 9 rfl rfl 1 (by decide) (km_nF hK 12 rfl) (fun _ h => h) rfl d_Ch_refusalOf_60 ?_
    refine lv_iload hx hb d_Ch_refusalOf_63 (lv_at hl 0 rfl) ?_
    refine lv_icmp_ge (tgt := 87) hx hb d_Ch_refusalOf_65 (by first | rfl | decide) (fun h5 => ?_) (fun h5 => ?_)
    · have hw := hw.1 h5
      refine lv_iconst (v := (0 : Int32)) hx hb d_Ch_refusalOf_87 (by decide) ?_
      exact W.iret (v := (0 : Int32)) hx hb hr (fun t ht hW => ⟨⟨(0 : Int32), z1, rfl, hw, by rw [ht]; exact hP, hD⟩, hS.F ht⟩) hS.2.2 d_Ch_refusalOf_88
    · have hw := hw.2 h5
      refine lv_iload_n hx hb d_Ch_refusalOf_68 rfl (lv_at hl 5 rfl) ?_
      refine lv_if_eq (tgt := 85) hx hb d_Ch_refusalOf_69 (by first | rfl | decide) (fun h6 => ?_) (fun h6 => ?_)
      · have hw := hw.1 h6
        refine lv_iconst (v := (2 : Int32)) hx hb d_Ch_refusalOf_85 (by decide) ?_
        exact W.iret (v := (2 : Int32)) hx hb hr (fun t ht hW => ⟨⟨(2 : Int32), z1, rfl, hw, by rw [ht]; exact hP, hD⟩, hS.F ht⟩) hS.2.2 d_Ch_refusalOf_86
      · have hw := hw.2 h6
        refine lv_aload_n hx hb d_Ch_refusalOf_72 rfl (lv_at hl 3 rfl) ?_
        refine lv_aload_n hx hb d_Ch_refusalOf_73 rfl (lv_at hl 3 rfl) ?_
        refine va_getN (D := D) (ci := 2) (v := .int (mnd_last z1)) (C := R_Nd) (T := F_Nd) (N := 9) hx hb hts iw_Nd hown hK.1 hP 0 rfl rfl 4 (by decide) (km_nF hK 23 rfl) (fun _ h => h) rfl d_Ch_refusalOf_74 ?_
        refine lv_iload hx hb d_Ch_refusalOf_77 (lv_at hl 0 rfl) ?_
        refine va_mmax hx hb (hml.trans hl.1.symm) hown (hts _ mw_310) (hts _ mw_261) (hts _ mw_10) (hts _ mw_262) (Nat.le_of_ble_eq_true rfl) (Nat.le_of_ble_eq_true rfl) (Nat.le_of_ble_eq_true rfl) (Nat.le_of_ble_eq_true rfl) d_Ch_refusalOf_79 ?_
        refine va_putN (D := D) (ci := 2) (v := .int (if (mnd_last z1) < v4 then v4 else (mnd_last z1))) (ty := .int) (C := R_Nd) (T := F_Nd) (N := 9) hx hb hts iw_Nd t_Nd t_Nd_ok n_Nd hown hK.1 hP hD hS 0 rfl rfl 4 (by decide) (km_nF hK 23 rfl) (fun _ h => h) rfl (t_Nd_ok 4 (by decide)) rfl rfl (Nat.le_of_ble_eq_true rfl) d_Ch_refusalOf_82 (fun H locs hP hD hS => ?_)
        have hP : va_P D kmC (mndW cI cN cZ a1 (mnd_s_last z1 (if (mnd_last z1) < v4 then v4 else (mnd_last z1)))) H := hP
        have hD : va_D A (mndW cI cN cZ a1 (mnd_s_last z1 (if (mnd_last z1) < v4 then v4 else (mnd_last z1)))) := hD
        refine lv_iconst (v := (2 : Int32)) hx hb d_Ch_refusalOf_85 (by decide) ?_
        exact W.iret (v := (2 : Int32)) hx hb hr (fun t ht hW => ⟨⟨(2 : Int32), (mnd_s_last z1 (if (mnd_last z1) < v4 then v4 else (mnd_last z1))), rfl, hw, by rw [ht]; exact hP, hD⟩, hS.F ht⟩) hS.2.2 d_Ch_refusalOf_86
  · have hw := hw.2 h2
    exact hw.elim
set_option maxHeartbeats 4000000 in
set_option maxRecDepth 100000 in
theorem c_Ch_ask (l : Launch) (D : va_G) (cI cN cZ : ClassId) (a1 : Nat → Nat) (g : Nat → Option Nat) (z1 : MchT) (x1 : Int32) (x2 : Int32) (x3 : Int32) (post : Int32 → MchT → Prop) (hw : wp_Ch_ask z1 x1 x2 x3 post) : km_I l y_Ch_ask (.code y_Ch_ask b_Ch_ask 4 (some .int) :: kmW) rm_Ch_ask D kmC (kmT cI cN cZ) kmF kmM [.ref (a1 0), .int x1, .int x2, .int x3] (mchW cI cN cZ a1 g z1) (fun (r : Int32) (u : MchT) => post r u) (fun (u : MchT) => (mchW cI cN cZ a1 g u)) 0 0 := by
  refine km_startI (cc := b_Ch_ask) (maxL := 4) (ret := (some .int)) (by decide) rfl (Nat.le_of_ble_eq_true rfl) ?_
  intro p e s m below meth c A ls hE hA hK hP hD hS hl
  obtain ⟨hx, hb, hr, hml, hown, hts0, hlk, hnm⟩ := id hE
  have hts : ∀ w ∈ kmW, w.before ([.ref (a1 0), .int x1, .int x2, .int x3] : List Value).toArray s = true := fun w h => hts0 w (List.mem_cons_of_mem _ h)
  have hP : va_P D kmC (mchW cI cN cZ a1 g z1) s.heap := hP
  have hl : lv_has ls 4 [(0, .ref (a1 0)), (1, .int x1), (2, .int x2), (3, .int x3)] := hl
  unfold wp_Ch_ask at hw
  refine lv_iload_n hx hb d_Ch_ask_0 rfl (lv_at hl 1 rfl) ?_
  refine lv_if_lt (tgt := 16) hx hb d_Ch_ask_1 (by first | rfl | decide) (fun h1 => ?_) (fun h1 => ?_)
  · have hw := hw.1 h1
    refine lv_iconst (v := (-1 : Int32)) hx hb d_Ch_ask_16 (by decide) ?_
    exact W.iret (v := (-1 : Int32)) hx hb hr (fun t ht hW => ⟨⟨(-1 : Int32), z1, rfl, hw, by rw [ht]; exact hP, hD⟩, hS.F ht⟩) hS.2.2 d_Ch_ask_17
  · have hw := hw.2 h1
    refine lv_iload_n hx hb d_Ch_ask_4 rfl (lv_at hl 1 rfl) ?_
    refine lv_iconst (v := (3 : Int32)) hx hb d_Ch_ask_5 (by decide) ?_
    refine lv_icmp_gt (tgt := 16) hx hb d_Ch_ask_6 (by first | rfl | decide) (fun h2 => ?_) (fun h2 => ?_)
    · have hw := hw.1 h2
      refine lv_iconst (v := (-1 : Int32)) hx hb d_Ch_ask_16 (by decide) ?_
      exact W.iret (v := (-1 : Int32)) hx hb hr (fun t ht hW => ⟨⟨(-1 : Int32), z1, rfl, hw, by rw [ht]; exact hP, hD⟩, hS.F ht⟩) hS.2.2 d_Ch_ask_17
    · have hw := hw.2 h2
      refine lv_iload_n hx hb d_Ch_ask_9 rfl (lv_at hl 2 rfl) ?_
      refine km_ci (wr := [(a1 0, .inr (5, [.ref (a1 1), .ref (a1 2), .ref (a1 6), .ref (a1 7), .int (mch_routerConfiguration z1)])), (a1 1, .inl (cN, 6, .inr (.inr (.inr (.inr g))))), (a1 2, .inr (3, [.ref (a1 3), .ref (a1 4), .ref (a1 5), .int (mbk_count (mch_book z1))])), (a1 3, .inl (cI, 31, .inl (mbk_kinds (mch_book z1)))), (a1 4, .inl (cI, 31, .inl (mbk_keys (mch_book z1)))), (a1 5, .inl (cI, 31, .inl (mbk_numbers (mch_book z1)))), (a1 6, .inl (cI, 31, .inl (mch_heardAnswers z1))), (a1 7, .inl (cI, 31, .inl (mch_heardCounts z1)))]) (km_rS (n := 1) hE kmG (c_Ch_isKey l D cI cN cZ x2 _ hw) mw_200 mw_198 mw_199 mw_1 (by decide) ⟨rfl, rfl, ⟨by decide, by decide⟩, by decide, by decide⟩ hK (km_cut hP [] rfl) (hD.sub [] (by decide) rfl) rfl hl.1 rfl (Nat.le_of_ble_eq_true rfl) d_Ch_ask_10) hP hD hS hA [] [0, 1, 2, 3, 4, 5, 6, 7] rfl rfl (by decide) (by decide) (fun r3 _ H locs hw hP hD hS => ?_)
      have hP := hP.sub (ws' := (mchW cI cN cZ a1 g z1)) [0, 1, 2, 3, 4, 5, 6, 7] rfl
      have hD := hD.sub (ws' := (mchW cI cN cZ a1 g z1)) [0, 1, 2, 3, 4, 5, 6, 7] (by decide) rfl
      refine lv_if_ne (tgt := 18) hx hb d_Ch_ask_13 (by first | rfl | decide) (fun h4 => ?_) (fun h4 => ?_)
      · have hw := hw.2 h4
        refine lv_iload_n hx hb d_Ch_ask_18 rfl (lv_at hl 1 rfl) ?_
        refine lv_iconst (v := (3 : Int32)) hx hb d_Ch_ask_19 (by decide) ?_
        refine lv_icmp_ne (tgt := 32) hx hb d_Ch_ask_20 (by first | rfl | decide) (fun h5 => ?_) (fun h5 => ?_)
        · have hw := hw.2 h5
          refine lv_aload_n hx hb d_Ch_ask_32 rfl (lv_at hl 0 rfl) ?_
          refine va_get (D := D) (ci := 5) (v := .ref (a1 2)) (C := R_Ch) (T := F_Ch) (N := 5) hx hb hts iw_Ch hown hK.1 hP 0 rfl rfl 1 (by decide) (hts _ mw_179) (fun _ h => h) rfl d_Ch_ask_33 ?_
          refine km_ci (wr := [(a1 0, .inr (5, [.ref (a1 1), .ref (a1 2), .ref (a1 6), .ref (a1 7), .int (mch_routerConfiguration z1)])), (a1 1, .inl (cN, 6, .inr (.inr (.inr (.inr g))))), (a1 6, .inl (cI, 31, .inl (mch_heardAnswers z1))), (a1 7, .inl (cI, 31, .inl (mch_heardCounts z1)))]) (km_rVN (n := 0) hE kmG (c_Bk_isFull l D cI cN cZ (fun j => a1 (j + 2)) (mch_book z1) _ hw) mw_213 (km_nM hK 5 rfl) mw_212 mp_0 mw_7 (by decide) ⟨rfl, rfl, ⟨by decide, by decide⟩, by decide, by decide⟩ hK (km_cut hP [2, 3, 4, 5] rfl) (hD.sub [2, 3, 4, 5] (by decide) rfl) (ci := 3) rfl hP (q0 := 2) rfl rfl hl.1 rfl (Nat.le_of_ble_eq_true rfl) d_Ch_ask_36) hP hD hS hA [2, 3, 4, 5] [0, 1, 6, 7] rfl rfl (by decide) (by decide) (fun r6 u7 H locs hw hP hD hS => ?_)
          have hP := hP.sub (ws' := (mchW cI cN cZ a1 g (mch_s_book z1 u7))) [0, 1, 4, 5, 6, 7, 2, 3] rfl
          have hD := hD.sub (ws' := (mchW cI cN cZ a1 g (mch_s_book z1 u7))) [0, 1, 4, 5, 6, 7, 2, 3] (by decide) rfl
          refine lv_if_eq (tgt := 46) hx hb d_Ch_ask_39 (by first | rfl | decide) (fun h8 => ?_) (fun h8 => ?_)
          · have hw := hw.1 h8
            refine lv_aload_n hx hb d_Ch_ask_46 rfl (lv_at hl 0 rfl) ?_
            refine va_get (D := D) (ci := 5) (v := .ref (a1 2)) (C := R_Ch) (T := F_Ch) (N := 5) hx hb hts iw_Ch hown hK.1 hP 0 rfl rfl 1 (by decide) (hts _ mw_179) (fun _ h => h) rfl d_Ch_ask_47 ?_
            refine lv_iload_n hx hb d_Ch_ask_50 rfl (lv_at hl 1 rfl) ?_
            refine lv_iload_n hx hb d_Ch_ask_51 rfl (lv_at hl 2 rfl) ?_
            refine lv_iload_n hx hb d_Ch_ask_52 rfl (lv_at hl 3 rfl) ?_
            refine km_ci (wr := [(a1 0, .inr (5, [.ref (a1 1), .ref (a1 2), .ref (a1 6), .ref (a1 7), .int (mch_routerConfiguration (mch_s_book z1 u7))])), (a1 1, .inl (cN, 6, .inr (.inr (.inr (.inr g))))), (a1 6, .inl (cI, 31, .inl (mch_heardAnswers (mch_s_book z1 u7)))), (a1 7, .inl (cI, 31, .inl (mch_heardCounts (mch_s_book z1 u7))))]) (km_rVN (n := 3) hE kmG (c_Bk_add l D cI cN cZ (fun j => a1 (j + 2)) u7 x1 x2 x3 _ hw) mw_217 (km_nM hK 6 rfl) mw_216 mp_1 mw_7 (by decide) ⟨rfl, rfl, ⟨by decide, by decide⟩, by decide, by decide⟩ hK (km_cut hP [2, 3, 4, 5] rfl) (hD.sub [2, 3, 4, 5] (by decide) rfl) (ci := 3) rfl hP (q0 := 2) rfl rfl hl.1 rfl (Nat.le_of_ble_eq_true rfl) d_Ch_ask_53) hP hD hS hA [2, 3, 4, 5] [0, 1, 6, 7] rfl rfl (by decide) (by decide) (fun r9 u10 H locs hw hP hD hS => ?_)
            have hP := hP.sub (ws' := (mchW cI cN cZ a1 g (mch_s_book (mch_s_book z1 u7) u10))) [0, 1, 4, 5, 6, 7, 2, 3] rfl
            have hD := hD.sub (ws' := (mchW cI cN cZ a1 g (mch_s_book (mch_s_book z1 u7) u10))) [0, 1, 4, 5, 6, 7, 2, 3] (by decide) rfl
            exact W.iret (v := r9) hx hb hr (fun t ht hW => ⟨⟨r9, (mch_s_book (mch_s_book z1 u7) u10), rfl, hw, by rw [ht]; exact hP, hD⟩, hS.F ht⟩) hS.2.2 d_Ch_ask_56
          · have hw := hw.2 h8
            refine lv_iconst (v := (-1 : Int32)) hx hb d_Ch_ask_42 (by decide) ?_
            refine lv_goto (tgt := 56) hx hb d_Ch_ask_43 (by first | rfl | decide) ?_
            exact W.iret (v := (-1 : Int32)) hx hb hr (fun t ht hW => ⟨⟨(-1 : Int32), (mch_s_book z1 u7), rfl, hw, by rw [ht]; exact hP, hD⟩, hS.F ht⟩) hS.2.2 d_Ch_ask_56
        · have hw := hw.1 h5
          refine lv_iload_n hx hb d_Ch_ask_23 rfl (lv_at hl 3 rfl) ?_
          refine km_ci (wr := [(a1 0, .inr (5, [.ref (a1 1), .ref (a1 2), .ref (a1 6), .ref (a1 7), .int (mch_routerConfiguration z1)])), (a1 1, .inl (cN, 6, .inr (.inr (.inr (.inr g))))), (a1 2, .inr (3, [.ref (a1 3), .ref (a1 4), .ref (a1 5), .int (mbk_count (mch_book z1))])), (a1 3, .inl (cI, 31, .inl (mbk_kinds (mch_book z1)))), (a1 4, .inl (cI, 31, .inl (mbk_keys (mch_book z1)))), (a1 5, .inl (cI, 31, .inl (mbk_numbers (mch_book z1)))), (a1 6, .inl (cI, 31, .inl (mch_heardAnswers z1))), (a1 7, .inl (cI, 31, .inl (mch_heardCounts z1)))]) (km_rS (n := 1) hE kmG (c_Ch_isMembership l D cI cN cZ x3 _ hw) mw_203 mw_201 mw_202 mw_1 (by decide) ⟨rfl, rfl, ⟨by decide, by decide⟩, by decide, by decide⟩ hK (km_cut hP [] rfl) (hD.sub [] (by decide) rfl) rfl hl.1 rfl (Nat.le_of_ble_eq_true rfl) d_Ch_ask_24) hP hD hS hA [] [0, 1, 2, 3, 4, 5, 6, 7] rfl rfl (by decide) (by decide) (fun r11 _ H locs hw hP hD hS => ?_)
          have hP := hP.sub (ws' := (mchW cI cN cZ a1 g z1)) [0, 1, 2, 3, 4, 5, 6, 7] rfl
          have hD := hD.sub (ws' := (mchW cI cN cZ a1 g z1)) [0, 1, 2, 3, 4, 5, 6, 7] (by decide) rfl
          refine lv_if_ne (tgt := 32) hx hb d_Ch_ask_27 (by first | rfl | decide) (fun h12 => ?_) (fun h12 => ?_)
          · have hw := hw.2 h12
            refine lv_aload_n hx hb d_Ch_ask_32 rfl (lv_at hl 0 rfl) ?_
            refine va_get (D := D) (ci := 5) (v := .ref (a1 2)) (C := R_Ch) (T := F_Ch) (N := 5) hx hb hts iw_Ch hown hK.1 hP 0 rfl rfl 1 (by decide) (hts _ mw_179) (fun _ h => h) rfl d_Ch_ask_33 ?_
            refine km_ci (wr := [(a1 0, .inr (5, [.ref (a1 1), .ref (a1 2), .ref (a1 6), .ref (a1 7), .int (mch_routerConfiguration z1)])), (a1 1, .inl (cN, 6, .inr (.inr (.inr (.inr g))))), (a1 6, .inl (cI, 31, .inl (mch_heardAnswers z1))), (a1 7, .inl (cI, 31, .inl (mch_heardCounts z1)))]) (km_rVN (n := 0) hE kmG (c_Bk_isFull l D cI cN cZ (fun j => a1 (j + 2)) (mch_book z1) _ hw) mw_213 (km_nM hK 5 rfl) mw_212 mp_0 mw_7 (by decide) ⟨rfl, rfl, ⟨by decide, by decide⟩, by decide, by decide⟩ hK (km_cut hP [2, 3, 4, 5] rfl) (hD.sub [2, 3, 4, 5] (by decide) rfl) (ci := 3) rfl hP (q0 := 2) rfl rfl hl.1 rfl (Nat.le_of_ble_eq_true rfl) d_Ch_ask_36) hP hD hS hA [2, 3, 4, 5] [0, 1, 6, 7] rfl rfl (by decide) (by decide) (fun r13 u14 H locs hw hP hD hS => ?_)
            have hP := hP.sub (ws' := (mchW cI cN cZ a1 g (mch_s_book z1 u14))) [0, 1, 4, 5, 6, 7, 2, 3] rfl
            have hD := hD.sub (ws' := (mchW cI cN cZ a1 g (mch_s_book z1 u14))) [0, 1, 4, 5, 6, 7, 2, 3] (by decide) rfl
            refine lv_if_eq (tgt := 46) hx hb d_Ch_ask_39 (by first | rfl | decide) (fun h15 => ?_) (fun h15 => ?_)
            · have hw := hw.1 h15
              refine lv_aload_n hx hb d_Ch_ask_46 rfl (lv_at hl 0 rfl) ?_
              refine va_get (D := D) (ci := 5) (v := .ref (a1 2)) (C := R_Ch) (T := F_Ch) (N := 5) hx hb hts iw_Ch hown hK.1 hP 0 rfl rfl 1 (by decide) (hts _ mw_179) (fun _ h => h) rfl d_Ch_ask_47 ?_
              refine lv_iload_n hx hb d_Ch_ask_50 rfl (lv_at hl 1 rfl) ?_
              refine lv_iload_n hx hb d_Ch_ask_51 rfl (lv_at hl 2 rfl) ?_
              refine lv_iload_n hx hb d_Ch_ask_52 rfl (lv_at hl 3 rfl) ?_
              refine km_ci (wr := [(a1 0, .inr (5, [.ref (a1 1), .ref (a1 2), .ref (a1 6), .ref (a1 7), .int (mch_routerConfiguration (mch_s_book z1 u14))])), (a1 1, .inl (cN, 6, .inr (.inr (.inr (.inr g))))), (a1 6, .inl (cI, 31, .inl (mch_heardAnswers (mch_s_book z1 u14)))), (a1 7, .inl (cI, 31, .inl (mch_heardCounts (mch_s_book z1 u14))))]) (km_rVN (n := 3) hE kmG (c_Bk_add l D cI cN cZ (fun j => a1 (j + 2)) u14 x1 x2 x3 _ hw) mw_217 (km_nM hK 6 rfl) mw_216 mp_1 mw_7 (by decide) ⟨rfl, rfl, ⟨by decide, by decide⟩, by decide, by decide⟩ hK (km_cut hP [2, 3, 4, 5] rfl) (hD.sub [2, 3, 4, 5] (by decide) rfl) (ci := 3) rfl hP (q0 := 2) rfl rfl hl.1 rfl (Nat.le_of_ble_eq_true rfl) d_Ch_ask_53) hP hD hS hA [2, 3, 4, 5] [0, 1, 6, 7] rfl rfl (by decide) (by decide) (fun r16 u17 H locs hw hP hD hS => ?_)
              have hP := hP.sub (ws' := (mchW cI cN cZ a1 g (mch_s_book (mch_s_book z1 u14) u17))) [0, 1, 4, 5, 6, 7, 2, 3] rfl
              have hD := hD.sub (ws' := (mchW cI cN cZ a1 g (mch_s_book (mch_s_book z1 u14) u17))) [0, 1, 4, 5, 6, 7, 2, 3] (by decide) rfl
              exact W.iret (v := r16) hx hb hr (fun t ht hW => ⟨⟨r16, (mch_s_book (mch_s_book z1 u14) u17), rfl, hw, by rw [ht]; exact hP, hD⟩, hS.F ht⟩) hS.2.2 d_Ch_ask_56
            · have hw := hw.2 h15
              refine lv_iconst (v := (-1 : Int32)) hx hb d_Ch_ask_42 (by decide) ?_
              refine lv_goto (tgt := 56) hx hb d_Ch_ask_43 (by first | rfl | decide) ?_
              exact W.iret (v := (-1 : Int32)) hx hb hr (fun t ht hW => ⟨⟨(-1 : Int32), (mch_s_book z1 u14), rfl, hw, by rw [ht]; exact hP, hD⟩, hS.F ht⟩) hS.2.2 d_Ch_ask_56
          · have hw := hw.1 h12
            refine lv_iconst (v := (-1 : Int32)) hx hb d_Ch_ask_30 (by decide) ?_
            exact W.iret (v := (-1 : Int32)) hx hb hr (fun t ht hW => ⟨⟨(-1 : Int32), z1, rfl, hw, by rw [ht]; exact hP, hD⟩, hS.F ht⟩) hS.2.2 d_Ch_ask_31
      · have hw := hw.1 h4
        refine lv_iconst (v := (-1 : Int32)) hx hb d_Ch_ask_16 (by decide) ?_
        exact W.iret (v := (-1 : Int32)) hx hb hr (fun t ht hW => ⟨⟨(-1 : Int32), z1, rfl, hw, by rw [ht]; exact hP, hD⟩, hS.F ht⟩) hS.2.2 d_Ch_ask_17
set_option maxHeartbeats 4000000 in
set_option maxRecDepth 100000 in
theorem c_Ch_router (l : Launch) (D : va_G) (cI cN cZ : ClassId) (a1 : Nat → Nat) (g : Nat → Option Nat) (z1 : MchT) (post : Int32 → MchT → Prop) (hw : wp_Ch_router z1 post) : km_I l y_Ch_router (.code y_Ch_router b_Ch_router 1 (some .int) :: kmW) rm_Ch_router D kmC (kmT cI cN cZ) kmF kmM [.ref (a1 0)] (mchW cI cN cZ a1 g z1) (fun (r : Int32) (u : MchT) => post r u) (fun (u : MchT) => (mchW cI cN cZ a1 g u)) 0 0 := by
  refine km_startI (cc := b_Ch_router) (maxL := 1) (ret := (some .int)) (by decide) rfl (Nat.le_of_ble_eq_true rfl) ?_
  intro p e s m below meth c A ls hE hA hK hP hD hS hl
  obtain ⟨hx, hb, hr, hml, hown, hts0, hlk, hnm⟩ := id hE
  have hts : ∀ w ∈ kmW, w.before ([.ref (a1 0)] : List Value).toArray s = true := fun w h => hts0 w (List.mem_cons_of_mem _ h)
  have hP : va_P D kmC (mchW cI cN cZ a1 g z1) s.heap := hP
  have hl : lv_has ls 1 [(0, .ref (a1 0))] := hl
  unfold wp_Ch_router at hw
  refine lv_aload_n hx hb d_Ch_router_0 rfl (lv_at hl 0 rfl) ?_
  refine va_get (D := D) (ci := 5) (v := .int (mch_routerConfiguration z1)) (C := R_Ch) (T := F_Ch) (N := 5) hx hb hts iw_Ch hown hK.1 hP 0 rfl rfl 4 (by decide) (hts _ mw_182) (fun _ h => h) rfl d_Ch_router_1 ?_
  exact W.iret (v := (mch_routerConfiguration z1)) hx hb hr (fun t ht hW => ⟨⟨(mch_routerConfiguration z1), z1, rfl, hw, by rw [ht]; exact hP, hD⟩, hS.F ht⟩) hS.2.2 d_Ch_router_4
set_option maxHeartbeats 4000000 in
set_option maxRecDepth 100000 in
theorem c_Ch_reply (l : Launch) (D : va_G) (cI cN cZ : ClassId) (a1 : Nat → Nat) (g : Nat → Option Nat) (z1 : MchT) (x1 : Int32) (post : Int32 → MchT → Prop) (hw : wp_Ch_reply z1 x1 post) : km_I l y_Ch_reply (.code y_Ch_reply b_Ch_reply 2 (some .int) :: kmW) rm_Ch_reply D kmC (kmT cI cN cZ) kmF kmM [.ref (a1 0), .int x1] (mchW cI cN cZ a1 g z1) (fun (r : Int32) (u : MchT) => post r u) (fun (u : MchT) => (mchW cI cN cZ a1 g u)) 0 0 := by
  refine km_startI (cc := b_Ch_reply) (maxL := 2) (ret := (some .int)) (by decide) rfl (Nat.le_of_ble_eq_true rfl) ?_
  intro p e s m below meth c A ls hE hA hK hP hD hS hl
  obtain ⟨hx, hb, hr, hml, hown, hts0, hlk, hnm⟩ := id hE
  have hts : ∀ w ∈ kmW, w.before ([.ref (a1 0), .int x1] : List Value).toArray s = true := fun w h => hts0 w (List.mem_cons_of_mem _ h)
  have hP : va_P D kmC (mchW cI cN cZ a1 g z1) s.heap := hP
  have hl : lv_has ls 2 [(0, .ref (a1 0)), (1, .int x1)] := hl
  unfold wp_Ch_reply at hw
  refine lv_aload_n hx hb d_Ch_reply_0 rfl (lv_at hl 0 rfl) ?_
  refine va_get (D := D) (ci := 5) (v := .ref (a1 2)) (C := R_Ch) (T := F_Ch) (N := 5) hx hb hts iw_Ch hown hK.1 hP 0 rfl rfl 1 (by decide) (hts _ mw_179) (fun _ h => h) rfl d_Ch_reply_1 ?_
  refine lv_iload_n hx hb d_Ch_reply_4 rfl (lv_at hl 1 rfl) ?_
  refine km_ci (wr := [(a1 0, .inr (5, [.ref (a1 1), .ref (a1 2), .ref (a1 6), .ref (a1 7), .int (mch_routerConfiguration z1)])), (a1 1, .inl (cN, 6, .inr (.inr (.inr (.inr g))))), (a1 6, .inl (cI, 31, .inl (mch_heardAnswers z1))), (a1 7, .inl (cI, 31, .inl (mch_heardCounts z1)))]) (km_rVN (n := 1) hE kmG (c_Bk_has l D cI cN cZ (fun j => a1 (j + 2)) (mch_book z1) x1 _ hw) mw_225 (km_nM hK 7 rfl) mw_224 mp_2 mw_7 (by decide) ⟨rfl, rfl, ⟨by decide, by decide⟩, by decide, by decide⟩ hK (km_cut hP [2, 3, 4, 5] rfl) (hD.sub [2, 3, 4, 5] (by decide) rfl) (ci := 3) rfl hP (q0 := 2) rfl rfl hl.1 rfl (Nat.le_of_ble_eq_true rfl) d_Ch_reply_5) hP hD hS hA [2, 3, 4, 5] [0, 1, 6, 7] rfl rfl (by decide) (by decide) (fun r1 u2 H locs hw hP hD hS => ?_)
  have hP := hP.sub (ws' := (mchW cI cN cZ a1 g (mch_s_book z1 u2))) [0, 1, 4, 5, 6, 7, 2, 3] rfl
  have hD := hD.sub (ws' := (mchW cI cN cZ a1 g (mch_s_book z1 u2))) [0, 1, 4, 5, 6, 7, 2, 3] (by decide) rfl
  refine lv_if_eq (tgt := 20) hx hb d_Ch_reply_8 (by first | rfl | decide) (fun h3 => ?_) (fun h3 => ?_)
  · have hw := hw.1 h3
    refine lv_iconst (v := (0 : Int32)) hx hb d_Ch_reply_20 (by decide) ?_
    exact W.iret (v := (0 : Int32)) hx hb hr (fun t ht hW => ⟨⟨(0 : Int32), (mch_s_book z1 u2), rfl, hw, by rw [ht]; exact hP, hD⟩, hS.F ht⟩) hS.2.2 d_Ch_reply_21
  · have hw := hw.2 h3
    refine lv_aload_n hx hb d_Ch_reply_11 rfl (lv_at hl 0 rfl) ?_
    refine va_get (D := D) (ci := 5) (v := .ref (a1 6)) (C := R_Ch) (T := F_Ch) (N := 5) hx hb hts iw_Ch hown hK.1 hP 0 rfl rfl 2 (by decide) (hts _ mw_180) (fun _ h => h) rfl d_Ch_reply_12 ?_
    refine lv_iload_n hx hb d_Ch_reply_15 rfl (lv_at hl 1 rfl) ?_
    obtain ⟨hin, hw⟩ := hw
    refine va_iald (f := (mch_heardAnswers z1)) hx hb hK.1 hP 6 0 rfl rfl hin d_Ch_reply_16 ?_
    refine lv_goto (tgt := 21) hx hb d_Ch_reply_17 (by first | rfl | decide) ?_
    exact W.iret (v := ((mch_heardAnswers z1) (x1).toNatClampNeg)) hx hb hr (fun t ht hW => ⟨⟨((mch_heardAnswers z1) (x1).toNatClampNeg), (mch_s_book z1 u2), rfl, hw, by rw [ht]; exact hP, hD⟩, hS.F ht⟩) hS.2.2 d_Ch_reply_21
set_option maxHeartbeats 4000000 in
set_option maxRecDepth 100000 in
theorem c_Ch_heard (l : Launch) (D : va_G) (cI cN cZ : ClassId) (a1 : Nat → Nat) (g : Nat → Option Nat) (z1 : MchT) (x1 : Int32) (post : Int32 → MchT → Prop) (hw : wp_Ch_heard z1 x1 post) : km_I l y_Ch_heard (.code y_Ch_heard b_Ch_heard 2 (some .int) :: kmW) rm_Ch_heard D kmC (kmT cI cN cZ) kmF kmM [.ref (a1 0), .int x1] (mchW cI cN cZ a1 g z1) (fun (r : Int32) (u : MchT) => post r u) (fun (u : MchT) => (mchW cI cN cZ a1 g u)) 0 0 := by
  refine km_startI (cc := b_Ch_heard) (maxL := 2) (ret := (some .int)) (by decide) rfl (Nat.le_of_ble_eq_true rfl) ?_
  intro p e s m below meth c A ls hE hA hK hP hD hS hl
  obtain ⟨hx, hb, hr, hml, hown, hts0, hlk, hnm⟩ := id hE
  have hts : ∀ w ∈ kmW, w.before ([.ref (a1 0), .int x1] : List Value).toArray s = true := fun w h => hts0 w (List.mem_cons_of_mem _ h)
  have hP : va_P D kmC (mchW cI cN cZ a1 g z1) s.heap := hP
  have hl : lv_has ls 2 [(0, .ref (a1 0)), (1, .int x1)] := hl
  unfold wp_Ch_heard at hw
  refine lv_aload_n hx hb d_Ch_heard_0 rfl (lv_at hl 0 rfl) ?_
  refine va_get (D := D) (ci := 5) (v := .ref (a1 2)) (C := R_Ch) (T := F_Ch) (N := 5) hx hb hts iw_Ch hown hK.1 hP 0 rfl rfl 1 (by decide) (hts _ mw_179) (fun _ h => h) rfl d_Ch_heard_1 ?_
  refine lv_iload_n hx hb d_Ch_heard_4 rfl (lv_at hl 1 rfl) ?_
  refine km_ci (wr := [(a1 0, .inr (5, [.ref (a1 1), .ref (a1 2), .ref (a1 6), .ref (a1 7), .int (mch_routerConfiguration z1)])), (a1 1, .inl (cN, 6, .inr (.inr (.inr (.inr g))))), (a1 6, .inl (cI, 31, .inl (mch_heardAnswers z1))), (a1 7, .inl (cI, 31, .inl (mch_heardCounts z1)))]) (km_rVN (n := 1) hE kmG (c_Bk_has l D cI cN cZ (fun j => a1 (j + 2)) (mch_book z1) x1 _ hw) mw_225 (km_nM hK 7 rfl) mw_224 mp_2 mw_7 (by decide) ⟨rfl, rfl, ⟨by decide, by decide⟩, by decide, by decide⟩ hK (km_cut hP [2, 3, 4, 5] rfl) (hD.sub [2, 3, 4, 5] (by decide) rfl) (ci := 3) rfl hP (q0 := 2) rfl rfl hl.1 rfl (Nat.le_of_ble_eq_true rfl) d_Ch_heard_5) hP hD hS hA [2, 3, 4, 5] [0, 1, 6, 7] rfl rfl (by decide) (by decide) (fun r1 u2 H locs hw hP hD hS => ?_)
  have hP := hP.sub (ws' := (mchW cI cN cZ a1 g (mch_s_book z1 u2))) [0, 1, 4, 5, 6, 7, 2, 3] rfl
  have hD := hD.sub (ws' := (mchW cI cN cZ a1 g (mch_s_book z1 u2))) [0, 1, 4, 5, 6, 7, 2, 3] (by decide) rfl
  refine lv_if_eq (tgt := 20) hx hb d_Ch_heard_8 (by first | rfl | decide) (fun h3 => ?_) (fun h3 => ?_)
  · have hw := hw.1 h3
    refine lv_iconst (v := (0 : Int32)) hx hb d_Ch_heard_20 (by decide) ?_
    exact W.iret (v := (0 : Int32)) hx hb hr (fun t ht hW => ⟨⟨(0 : Int32), (mch_s_book z1 u2), rfl, hw, by rw [ht]; exact hP, hD⟩, hS.F ht⟩) hS.2.2 d_Ch_heard_21
  · have hw := hw.2 h3
    refine lv_aload_n hx hb d_Ch_heard_11 rfl (lv_at hl 0 rfl) ?_
    refine va_get (D := D) (ci := 5) (v := .ref (a1 7)) (C := R_Ch) (T := F_Ch) (N := 5) hx hb hts iw_Ch hown hK.1 hP 0 rfl rfl 3 (by decide) (hts _ mw_181) (fun _ h => h) rfl d_Ch_heard_12 ?_
    refine lv_iload_n hx hb d_Ch_heard_15 rfl (lv_at hl 1 rfl) ?_
    obtain ⟨hin, hw⟩ := hw
    refine va_iald (f := (mch_heardCounts z1)) hx hb hK.1 hP 7 0 rfl rfl hin d_Ch_heard_16 ?_
    refine lv_goto (tgt := 21) hx hb d_Ch_heard_17 (by first | rfl | decide) ?_
    exact W.iret (v := ((mch_heardCounts z1) (x1).toNatClampNeg)) hx hb hr (fun t ht hW => ⟨⟨((mch_heardCounts z1) (x1).toNatClampNeg), (mch_s_book z1 u2), rfl, hw, by rw [ht]; exact hP, hD⟩, hS.F ht⟩) hS.2.2 d_Ch_heard_21
