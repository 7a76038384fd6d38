theorem d_Nd_isKnownAt_0 : decode b_Nd_isKnownAt 0 = .ok (.iload_n 1, 1) := by decide +kernel
theorem d_Nd_isKnownAt_1 : decode b_Nd_isKnownAt 1 = .ok (.invokestatic 59, 3) := by decide +kernel
theorem d_Nd_isKnownAt_4 : decode b_Nd_isKnownAt 4 = .ok (.ifCond .eq 17, 3) := by decide +kernel
theorem d_Nd_isKnownAt_7 : decode b_Nd_isKnownAt 7 = .ok (.aload_n 0, 1) := by decide +kernel
theorem d_Nd_isKnownAt_8 : decode b_Nd_isKnownAt 8 = .ok (.getfield 36, 3) := by decide +kernel
theorem d_Nd_isKnownAt_11 : decode b_Nd_isKnownAt 11 = .ok (.iload_n 1, 1) := by decide +kernel
theorem d_Nd_isKnownAt_12 : decode b_Nd_isKnownAt 12 = .ok (.iaload, 1) := by decide +kernel
theorem d_Nd_isKnownAt_13 : decode b_Nd_isKnownAt 13 = .ok (.iconst (-1), 1) := by decide +kernel
theorem d_Nd_isKnownAt_14 : decode b_Nd_isKnownAt 14 = .ok (.if_icmp .eq 7, 3) := by decide +kernel
theorem d_Nd_isKnownAt_17 : decode b_Nd_isKnownAt 17 = .ok (.iconst 1, 1) := by decide +kernel
theorem d_Nd_isKnownAt_18 : decode b_Nd_isKnownAt 18 = .ok (.goto 4, 3) := by decide +kernel
theorem d_Nd_isKnownAt_21 : decode b_Nd_isKnownAt 21 = .ok (.iconst 0, 1) := by decide +kernel
theorem d_Nd_isKnownAt_22 : decode b_Nd_isKnownAt 22 = .ok (.ireturn, 1) := by decide +kernel
theorem d_Nd_mayAttempt_0 : decode b_Nd_mayAttempt 0 = .ok (.iload_n 1, 1) := by decide +kernel
theorem d_Nd_mayAttempt_1 : decode b_Nd_mayAttempt 1 = .ok (.aload_n 0, 1) := by decide +kernel
theorem d_Nd_mayAttempt_2 : decode b_Nd_mayAttempt 2 = .ok (.getfield 18, 3) := by decide +kernel
theorem d_Nd_mayAttempt_5 : decode b_Nd_mayAttempt 5 = .ok (.getfield 63, 3) := by decide +kernel
theorem d_Nd_mayAttempt_8 : decode b_Nd_mayAttempt 8 = .ok (.if_icmp .le 20, 3) := by decide +kernel
theorem d_Nd_mayAttempt_11 : decode b_Nd_mayAttempt 11 = .ok (.iload_n 1, 1) := by decide +kernel
theorem d_Nd_mayAttempt_12 : decode b_Nd_mayAttempt 12 = .ok (.aload_n 0, 1) := by decide +kernel
theorem d_Nd_mayAttempt_13 : decode b_Nd_mayAttempt 13 = .ok (.getfield 18, 3) := by decide +kernel
theorem d_Nd_mayAttempt_16 : decode b_Nd_mayAttempt 16 = .ok (.getfield 63, 3) := by decide +kernel
theorem d_Nd_mayAttempt_19 : decode b_Nd_mayAttempt 19 = .ok (.iconst 2, 1) := by decide +kernel
theorem d_Nd_mayAttempt_20 : decode b_Nd_mayAttempt 20 = .ok (.iadd, 1) := by decide +kernel
theorem d_Nd_mayAttempt_21 : decode b_Nd_mayAttempt 21 = .ok (.if_icmp .gt 7, 3) := by decide +kernel
theorem d_Nd_mayAttempt_24 : decode b_Nd_mayAttempt 24 = .ok (.iconst 1, 1) := by decide +kernel
theorem d_Nd_mayAttempt_25 : decode b_Nd_mayAttempt 25 = .ok (.goto 4, 3) := by decide +kernel
theorem d_Nd_mayAttempt_28 : decode b_Nd_mayAttempt 28 = .ok (.iconst 0, 1) := by decide +kernel
theorem d_Nd_mayAttempt_29 : decode b_Nd_mayAttempt 29 = .ok (.istore_n 2, 1) := by decide +kernel
theorem d_Nd_mayAttempt_30 : decode b_Nd_mayAttempt 30 = .ok (.iload_n 2, 1) := by decide +kernel
theorem d_Nd_mayAttempt_31 : decode b_Nd_mayAttempt 31 = .ok (.ifCond .eq 22, 3) := by decide +kernel
theorem d_Nd_mayAttempt_34 : decode b_Nd_mayAttempt 34 = .ok (.iload_n 1, 1) := by decide +kernel
theorem d_Nd_mayAttempt_35 : decode b_Nd_mayAttempt 35 = .ok (.invokestatic 59, 3) := by decide +kernel
theorem d_Nd_mayAttempt_38 : decode b_Nd_mayAttempt 38 = .ok (.ifCond .eq 15, 3) := by decide +kernel
theorem d_Nd_mayAttempt_41 : decode b_Nd_mayAttempt 41 = .ok (.aload_n 0, 1) := by decide +kernel
theorem d_Nd_mayAttempt_42 : decode b_Nd_mayAttempt 42 = .ok (.iload_n 1, 1) := by decide +kernel
theorem d_Nd_mayAttempt_43 : decode b_Nd_mayAttempt 43 = .ok (.invokevirtual 66, 3) := by decide +kernel
theorem d_Nd_mayAttempt_46 : decode b_Nd_mayAttempt 46 = .ok (.ifCond .ne 7, 3) := by decide +kernel
theorem d_Nd_mayAttempt_49 : decode b_Nd_mayAttempt 49 = .ok (.iconst 1, 1) := by decide +kernel
theorem d_Nd_mayAttempt_50 : decode b_Nd_mayAttempt 50 = .ok (.goto 4, 3) := by decide +kernel
theorem d_Nd_mayAttempt_53 : decode b_Nd_mayAttempt 53 = .ok (.iconst 0, 1) := by decide +kernel
theorem d_Nd_mayAttempt_54 : decode b_Nd_mayAttempt 54 = .ok (.ireturn, 1) := by decide +kernel
theorem d_Nd_mayAsk_0 : decode b_Nd_mayAsk 0 = .ok (.aload_n 0, 1) := by decide +kernel
theorem d_Nd_mayAsk_1 : decode b_Nd_mayAsk 1 = .ok (.getfield 9, 3) := by decide +kernel
theorem d_Nd_mayAsk_4 : decode b_Nd_mayAsk 4 = .ok (.ifCond .eq 28, 3) := by decide +kernel
theorem d_Nd_mayAsk_7 : decode b_Nd_mayAsk 7 = .ok (.aload_n 0, 1) := by decide +kernel
theorem d_Nd_mayAsk_8 : decode b_Nd_mayAsk 8 = .ok (.getfield 46, 3) := by decide +kernel
theorem d_Nd_mayAsk_11 : decode b_Nd_mayAsk 11 = .ok (.invokevirtual 69, 3) := by decide +kernel
theorem d_Nd_mayAsk_14 : decode b_Nd_mayAsk 14 = .ok (.ifCond .eq 18, 3) := by decide +kernel
theorem d_Nd_mayAsk_17 : decode b_Nd_mayAsk 17 = .ok (.aload_n 0, 1) := by decide +kernel
theorem d_Nd_mayAsk_18 : decode b_Nd_mayAsk 18 = .ok (.getfield 18, 3) := by decide +kernel
theorem d_Nd_mayAsk_21 : decode b_Nd_mayAsk 21 = .ok (.iload_n 1, 1) := by decide +kernel
theorem d_Nd_mayAsk_22 : decode b_Nd_mayAsk 22 = .ok (.invokevirtual 73, 3) := by decide +kernel
theorem d_Nd_mayAsk_25 : decode b_Nd_mayAsk 25 = .ok (.ifCond .eq 7, 3) := by decide +kernel
theorem d_Nd_mayAsk_28 : decode b_Nd_mayAsk 28 = .ok (.iconst 1, 1) := by decide +kernel
theorem d_Nd_mayAsk_29 : decode b_Nd_mayAsk 29 = .ok (.goto 4, 3) := by decide +kernel
theorem d_Nd_mayAsk_32 : decode b_Nd_mayAsk 32 = .ok (.iconst 0, 1) := by decide +kernel
theorem d_Nd_mayAsk_33 : decode b_Nd_mayAsk 33 = .ok (.ireturn, 1) := by decide +kernel
theorem d_Nd_leastBallotAboveLast_0 : decode b_Nd_leastBallotAboveLast 0 = .ok (.aload_n 0, 1) := by decide +kernel
theorem d_Nd_leastBallotAboveLast_1 : decode b_Nd_leastBallotAboveLast 1 = .ok (.getfield 29, 3) := by decide +kernel
theorem d_Nd_leastBallotAboveLast_4 : decode b_Nd_leastBallotAboveLast 4 = .ok (.aload_n 0, 1) := by decide +kernel
theorem d_Nd_leastBallotAboveLast_5 : decode b_Nd_leastBallotAboveLast 5 = .ok (.getfield 50, 3) := by decide +kernel
theorem d_Nd_leastBallotAboveLast_8 : decode b_Nd_leastBallotAboveLast 8 = .ok (.isub, 1) := by decide +kernel
theorem d_Nd_leastBallotAboveLast_9 : decode b_Nd_leastBallotAboveLast 9 = .ok (.iconst 0, 1) := by decide +kernel
theorem d_Nd_leastBallotAboveLast_10 : decode b_Nd_leastBallotAboveLast 10 = .ok (.invokestatic 76, 3) := by decide +kernel
theorem d_Nd_leastBallotAboveLast_13 : decode b_Nd_leastBallotAboveLast 13 = .ok (.bipush 6, 2) := by decide +kernel
theorem d_Nd_leastBallotAboveLast_15 : decode b_Nd_leastBallotAboveLast 15 = .ok (.idiv, 1) := by decide +kernel
theorem d_Nd_leastBallotAboveLast_16 : decode b_Nd_leastBallotAboveLast 16 = .ok (.iconst 1, 1) := by decide +kernel
theorem d_Nd_leastBallotAboveLast_17 : decode b_Nd_leastBallotAboveLast 17 = .ok (.iadd, 1) := by decide +kernel
theorem d_Nd_leastBallotAboveLast_18 : decode b_Nd_leastBallotAboveLast 18 = .ok (.istore_n 1, 1) := by decide +kernel
theorem d_Nd_leastBallotAboveLast_19 : decode b_Nd_leastBallotAboveLast 19 = .ok (.bipush 6, 2) := by decide +kernel
theorem d_Nd_leastBallotAboveLast_21 : decode b_Nd_leastBallotAboveLast 21 = .ok (.iload_n 1, 1) := by decide +kernel
theorem d_Nd_leastBallotAboveLast_22 : decode b_Nd_leastBallotAboveLast 22 = .ok (.imul, 1) := by decide +kernel
theorem d_Nd_leastBallotAboveLast_23 : decode b_Nd_leastBallotAboveLast 23 = .ok (.aload_n 0, 1) := by decide +kernel
theorem d_Nd_leastBallotAboveLast_24 : decode b_Nd_leastBallotAboveLast 24 = .ok (.getfield 50, 3) := by decide +kernel
theorem d_Nd_leastBallotAboveLast_27 : decode b_Nd_leastBallotAboveLast 27 = .ok (.iadd, 1) := by decide +kernel
theorem d_Nd_leastBallotAboveLast_28 : decode b_Nd_leastBallotAboveLast 28 = .ok (.ireturn, 1) := by decide +kernel
theorem d_Nd_settleCommand_0 : decode b_Nd_settleCommand 0 = .ok (.aload_n 0, 1) := by decide +kernel
theorem d_Nd_settleCommand_1 : decode b_Nd_settleCommand 1 = .ok (.getfield 46, 3) := by decide +kernel
theorem d_Nd_settleCommand_4 : decode b_Nd_settleCommand 4 = .ok (.getfield 82, 3) := by decide +kernel
theorem d_Nd_settleCommand_7 : decode b_Nd_settleCommand 7 = .ok (.iconst (-1), 1) := by decide +kernel
theorem d_Nd_settleCommand_8 : decode b_Nd_settleCommand 8 = .ok (.if_icmp .eq 4, 3) := by decide +kernel
theorem d_Nd_settleCommand_11 : decode b_Nd_settleCommand 11 = .ok (.return_, 1) := by decide +kernel
theorem d_Nd_settleCommand_12 : decode b_Nd_settleCommand 12 = .ok (.aload_n 0, 1) := by decide +kernel
theorem d_Nd_settleCommand_13 : decode b_Nd_settleCommand 13 = .ok (.getfield 46, 3) := by decide +kernel
theorem d_Nd_settleCommand_16 : decode b_Nd_settleCommand 16 = .ok (.getfield 85, 3) := by decide +kernel
theorem d_Nd_settleCommand_19 : decode b_Nd_settleCommand 19 = .ok (.ifCond .eq 20, 3) := by decide +kernel
theorem d_Nd_settleCommand_22 : decode b_Nd_settleCommand 22 = .ok (.aload_n 0, 1) := by decide +kernel
theorem d_Nd_settleCommand_23 : decode b_Nd_settleCommand 23 = .ok (.getfield 46, 3) := by decide +kernel
theorem d_Nd_settleCommand_26 : decode b_Nd_settleCommand 26 = .ok (.aload_n 0, 1) := by decide +kernel
theorem d_Nd_settleCommand_27 : decode b_Nd_settleCommand 27 = .ok (.getfield 46, 3) := by decide +kernel
theorem d_Nd_settleCommand_30 : decode b_Nd_settleCommand 30 = .ok (.getfield 88, 3) := by decide +kernel
theorem d_Nd_settleCommand_33 : decode b_Nd_settleCommand 33 = .ok (.putfield 82, 3) := by decide +kernel
theorem d_Nd_settleCommand_36 : decode b_Nd_settleCommand 36 = .ok (.goto 46, 3) := by decide +kernel
theorem d_Nd_settleCommand_39 : decode b_Nd_settleCommand 39 = .ok (.aload_n 0, 1) := by decide +kernel
theorem d_Nd_settleCommand_40 : decode b_Nd_settleCommand 40 = .ok (.getfield 40, 3) := by decide +kernel
theorem d_Nd_settleCommand_43 : decode b_Nd_settleCommand 43 = .ok (.ifCond .eq 31, 3) := by decide +kernel
theorem d_Nd_settleCommand_46 : decode b_Nd_settleCommand 46 = .ok (.aload_n 0, 1) := by decide +kernel
theorem d_Nd_settleCommand_47 : decode b_Nd_settleCommand 47 = .ok (.getfield 18, 3) := by decide +kernel
theorem d_Nd_settleCommand_50 : decode b_Nd_settleCommand 50 = .ok (.aload_n 0, 1) := by decide +kernel
theorem d_Nd_settleCommand_51 : decode b_Nd_settleCommand 51 = .ok (.getfield 40, 3) := by decide +kernel
theorem d_Nd_settleCommand_54 : decode b_Nd_settleCommand 54 = .ok (.invokevirtual 91, 3) := by decide +kernel
theorem d_Nd_settleCommand_57 : decode b_Nd_settleCommand 57 = .ok (.ifCond .ne 17, 3) := by decide +kernel
theorem d_Nd_settleCommand_60 : decode b_Nd_settleCommand 60 = .ok (.aload_n 0, 1) := by decide +kernel
theorem d_Nd_settleCommand_61 : decode b_Nd_settleCommand 61 = .ok (.getfield 46, 3) := by decide +kernel
theorem d_Nd_settleCommand_64 : decode b_Nd_settleCommand 64 = .ok (.aload_n 0, 1) := by decide +kernel
theorem d_Nd_settleCommand_65 : decode b_Nd_settleCommand 65 = .ok (.getfield 40, 3) := by decide +kernel
theorem d_Nd_settleCommand_68 : decode b_Nd_settleCommand 68 = .ok (.putfield 82, 3) := by decide +kernel
theorem d_Nd_settleCommand_71 : decode b_Nd_settleCommand 71 = .ok (.goto 11, 3) := by decide +kernel
theorem d_Nd_settleCommand_74 : decode b_Nd_settleCommand 74 = .ok (.aload_n 0, 1) := by decide +kernel
theorem d_Nd_settleCommand_75 : decode b_Nd_settleCommand 75 = .ok (.getfield 46, 3) := by decide +kernel
theorem d_Nd_settleCommand_78 : decode b_Nd_settleCommand 78 = .ok (.iconst 0, 1) := by decide +kernel
theorem d_Nd_settleCommand_79 : decode b_Nd_settleCommand 79 = .ok (.putfield 82, 3) := by decide +kernel
theorem d_Nd_settleCommand_82 : decode b_Nd_settleCommand 82 = .ok (.return_, 1) := by decide +kernel
theorem d_Nd_leaveList_0 : decode b_Nd_leaveList 0 = .ok (.aload_n 0, 1) := by decide +kernel
theorem d_Nd_leaveList_1 : decode b_Nd_leaveList 1 = .ok (.getfield 36, 3) := by decide +kernel
theorem d_Nd_leaveList_4 : decode b_Nd_leaveList 4 = .ok (.iconst (-1), 1) := by decide +kernel
theorem d_Nd_leaveList_5 : decode b_Nd_leaveList 5 = .ok (.invokestatic 53, 3) := by decide +kernel
theorem d_Nd_leaveList_8 : decode b_Nd_leaveList 8 = .ok (.aload_n 0, 1) := by decide +kernel
theorem d_Nd_leaveList_9 : decode b_Nd_leaveList 9 = .ok (.getfield 46, 3) := by decide +kernel
theorem d_Nd_leaveList_12 : decode b_Nd_leaveList 12 = .ok (.invokevirtual 124, 3) := by decide +kernel
theorem d_Nd_leaveList_15 : decode b_Nd_leaveList 15 = .ok (.return_, 1) := by decide +kernel
theorem d_Nd_goDown_0 : decode b_Nd_goDown 0 = .ok (.aload_n 0, 1) := by decide +kernel
theorem d_Nd_goDown_1 : decode b_Nd_goDown 1 = .ok (.iconst 0, 1) := by decide +kernel
theorem d_Nd_goDown_2 : decode b_Nd_goDown 2 = .ok (.putfield 9, 3) := by decide +kernel
theorem d_Nd_goDown_5 : decode b_Nd_goDown 5 = .ok (.aload_n 0, 1) := by decide +kernel
theorem d_Nd_goDown_6 : decode b_Nd_goDown 6 = .ok (.iconst 0, 1) := by decide +kernel
theorem d_Nd_goDown_7 : decode b_Nd_goDown 7 = .ok (.putfield 40, 3) := by decide +kernel
theorem d_Nd_goDown_10 : decode b_Nd_goDown 10 = .ok (.aload_n 0, 1) := by decide +kernel
theorem d_Nd_goDown_11 : decode b_Nd_goDown 11 = .ok (.invokevirtual 115, 3) := by decide +kernel
theorem d_Nd_goDown_14 : decode b_Nd_goDown 14 = .ok (.return_, 1) := by decide +kernel
def wp_Nd_isKnownAt (z1 : MndT) (x1 : Int32) (post : Int32 → MndT → Prop) : Prop := (wp_Ch_isSlot x1 (fun (r1 : Int32) => ((r1 = (0 : Int32) → (post (0 : Int32) z1)) ∧ (¬ r1 = (0 : Int32) → (vp_in x1 9 ∧ ((((mnd_knownCommands z1) (x1).toNatClampNeg) = (-1 : Int32) → (post (0 : Int32) z1)) ∧ (¬ ((mnd_knownCommands z1) (x1).toNatClampNeg) = (-1 : Int32) → (post (1 : Int32) z1))))))))
abbrev rm_Nd_isKnownAt : Room := { frames := 1, cells := 0, slots := 0, locals := 20 }
def wp_Nd_mayAttempt (z1 : MndT) (x1 : Int32) (post : Int32 → MndT → Prop) : Prop := ((x1 ≤ (mst_executed (mnd_state z1)) → (post (0 : Int32) z1)) ∧ (¬ x1 ≤ (mst_executed (mnd_state z1)) → ((((mst_executed (mnd_state z1)) + (2 : Int32)) < x1 → (post (0 : Int32) z1)) ∧ (¬ ((mst_executed (mnd_state z1)) + (2 : Int32)) < x1 → (wp_Ch_isSlot x1 (fun (r6 : Int32) => ((r6 = (0 : Int32) → (post (0 : Int32) z1)) ∧ (¬ r6 = (0 : Int32) → (wp_Nd_isKnownAt z1 x1 (fun (r8 : Int32) (u9 : MndT) => ((r8 = (0 : Int32) → (post (1 : Int32) u9)) ∧ (¬ r8 = (0 : Int32) → (post (0 : Int32) u9)))))))))))))
abbrev rm_Nd_mayAttempt : Room := { frames := 2, cells := 0, slots := 0, locals := 41 }
def wp_Nd_mayAsk (z1 : MndT) (x1 : Int32) (post : Int32 → MndT → Prop) : Prop := (((mnd_up z1) = (0 : Int32) → (post (0 : Int32) z1)) ∧ (¬ (mnd_up z1) = (0 : Int32) → (wp_At_isOpen (mnd_attempt z1) (fun (r2 : Int32) (u3 : MatT) => ((r2 = (0 : Int32) → (post (0 : Int32) (mnd_s_attempt z1 u3))) ∧ (¬ r2 = (0 : Int32) → (wp_St_hasMember (mnd_state z1) x1 (fun (r5 : Int32) (u6 : MstT) => ((r5 = (0 : Int32) → (post (0 : Int32) (mnd_s_state (mnd_s_attempt z1 u3) u6))) ∧ (¬ r5 = (0 : Int32) → (post (1 : Int32) (mnd_s_state (mnd_s_attempt z1 u3) u6))))))))))))
abbrev rm_Nd_mayAsk : Room := { frames := 1, cells := 0, slots := 0, locals := 21 }
def wp_Nd_leastBallotAboveLast (z1 : MndT) (post : Int32 → MndT → Prop) : Prop := (∀ v1 : Int32, v1 = (((if ((mnd_last z1) - (mnd_number z1)) < (0 : Int32) then (0 : Int32) else ((mnd_last z1) - (mnd_number z1))) / (6 : Int32)) + (1 : Int32)) → (post (((6 : Int32) * v1) + (mnd_number z1)) z1))
abbrev rm_Nd_leastBallotAboveLast : Room := { frames := 1, cells := 0, slots := 0, locals := 21 }
def wp_Nd_settleCommand (z1 : MndT) (post : MndT → Prop) : Prop := (((mat_command (mnd_attempt z1)) = (-1 : Int32) → (((mat_bestBallot (mnd_attempt z1)) = (0 : Int32) → (((mnd_pending z1) = (0 : Int32) → (post (mnd_s_attempt_command z1 (0 : Int32)))) ∧ (¬ (mnd_pending z1) = (0 : Int32) → (wp_St_isDone (mnd_state z1) (mnd_pending z1) (fun (r4 : Int32) (u5 : MstT) => ((r4 = (0 : Int32) → (post (mnd_s_attempt_command (mnd_s_state z1 u5) (mnd_pending z1)))) ∧ (¬ r4 = (0 : Int32) → (post (mnd_s_attempt_command (mnd_s_state z1 u5) (0 : Int32)))))))))) ∧ (¬ (mat_bestBallot (mnd_attempt z1)) = (0 : Int32) → (post (mnd_s_attempt_command z1 (mat_bestCommand (mnd_attempt z1))))))) ∧ (¬ (mat_command (mnd_attempt z1)) = (-1 : Int32) → (post z1)))
abbrev rm_Nd_settleCommand : Room := { frames := 1, cells := 0, slots := 0, locals := 21 }
def wp_Nd_leaveList (z1 : MndT) (post : MndT → Prop) : Prop := (wp_Ja_fill (mnd_knownCommands z1) (-1 : Int32) (fun (u2 : (Nat → Int32)) => (wp_At_end (mnd_attempt z1) (fun (u4 : MatT) => (post (mnd_s_attempt (mnd_s_knownCommands z1 u2) u4))))))
abbrev rm_Nd_leaveList : Room := { frames := 2, cells := 0, slots := 0, locals := 42 }
def wp_Nd_goDown (z1 : MndT) (post : MndT → Prop) : Prop := (wp_Nd_leaveList (mnd_s_pending (mnd_s_up z1 (0 : Int32)) (0 : Int32)) (fun (u2 : MndT) => (post u2)))
abbrev rm_Nd_goDown : Room := { frames := 3, cells := 0, slots := 0, locals := 62 }
set_option maxHeartbeats 4000000 in
set_option maxRecDepth 100000 in
theorem c_Nd_isKnownAt (l : Launch) (D : va_G) (cI cN cZ : ClassId) (a1 : Nat → Nat) (z1 : MndT) (x1 : Int32) (post : Int32 → MndT → Prop) (hw : wp_Nd_isKnownAt z1 x1 post) : km_I l y_Nd_isKnownAt (.code y_Nd_isKnownAt b_Nd_isKnownAt 2 (some .boolean) :: kmW) rm_Nd_isKnownAt D kmC (kmT cI cN cZ) kmF kmM [.ref (a1 0), .int x1] (mndW cI cN cZ a1 z1) (fun (r : Int32) (u : MndT) => post r u) (fun (u : MndT) => (mndW cI cN cZ a1 u)) 0 0 := by
  refine km_startI (cc := b_Nd_isKnownAt) (maxL := 2) (ret := (some .boolean)) (by decide) rfl (Nat.le_of_ble_eq_true rfl) ?_
  intro p e s m below meth c A ls hE hA hK hP hD hS hl
  obtain ⟨hx, hb, hr, hml, hown, hts0, hlk, hnm⟩ := id hE
  have hts : ∀ w ∈ kmW, w.before ([.ref (a1 0), .int x1] : List Value).toArray s = true := fun w h => hts0 w (List.mem_cons_of_mem _ h)
  have hP : va_P D kmC (mndW cI cN cZ a1 z1) s.heap := hP
  have hl : lv_has ls 2 [(0, .ref (a1 0)), (1, .int x1)] := hl
  unfold wp_Nd_isKnownAt at hw
  refine lv_iload_n hx hb d_Nd_isKnownAt_0 rfl (lv_at hl 1 rfl) ?_
  refine km_ci (wr := [(a1 0, .inr (2, [.int (mnd_number z1), .int (mnd_up z1), .ref (a1 1), .ref (a1 4), .int (mnd_last z1), .int (mnd_retired z1), .ref (a1 8), .int (mnd_pending z1), .ref (a1 9)])), (a1 1, .inr (4, [.int (mst_configuration (mnd_state z1)), .int (mst_membership (mnd_state z1)), .int (mst_executed (mnd_state z1)), .ref (a1 2), .int (mst_doneBits (mnd_state z1)), .ref (a1 3)])), (a1 2, .inl (cI, 4, .inl (mst_values (mnd_state z1)))), (a1 3, .inl (cI, 31, .inl (mst_answers (mnd_state z1)))), (a1 4, .inr (1, [.ref (a1 5), .ref (a1 6), .ref (a1 7)])), (a1 5, .inl (cI, 40, .inl (mlg_promisedBallots (mnd_ledger z1)))), (a1 6, .inl (cI, 40, .inl (mlg_voteBallots (mnd_ledger z1)))), (a1 7, .inl (cI, 40, .inl (mlg_voteCommands (mnd_ledger z1)))), (a1 8, .inl (cI, 9, .inl (mnd_knownCommands z1))), (a1 9, .inr (0, [.int (mat_slot (mnd_attempt z1)), .int (mat_ballot (mnd_attempt z1)), .int (mat_promisers (mnd_attempt z1)), .int (mat_voters (mnd_attempt z1)), .int (mat_bestBallot (mnd_attempt z1)), .int (mat_bestCommand (mnd_attempt z1)), .int (mat_command (mnd_attempt z1))]))]) (km_rSN (n := 1) hE kmG (c_Ch_isSlot l D cI cN cZ x1 _ hw) mw_251 (km_nM hK 11 rfl) mw_250 mw_1 (by decide) ⟨rfl, rfl, ⟨by decide, by decide⟩, by decide, by decide⟩ hK (km_cut hP [] rfl) (hD.sub [] (by decide) rfl) rfl hl.1 rfl (Nat.le_of_ble_eq_true rfl) d_Nd_isKnownAt_1) hP hD hS hA [] [0, 1, 2, 3, 4, 5, 6, 7, 8, 9] rfl rfl (by decide) (by decide) (fun r1 _ H locs hw hP hD hS => ?_)
  have hP := hP.sub (ws' := (mndW cI cN cZ a1 z1)) [0, 1, 2, 3, 4, 5, 6, 7, 8, 9] rfl
  have hD := hD.sub (ws' := (mndW cI cN cZ a1 z1)) [0, 1, 2, 3, 4, 5, 6, 7, 8, 9] (by decide) rfl
  refine lv_if_eq (tgt := 21) hx hb d_Nd_isKnownAt_4 (by first | rfl | decide) (fun h2 => ?_) (fun h2 => ?_)
  · have hw := hw.1 h2
    refine lv_iconst (v := (0 : Int32)) hx hb d_Nd_isKnownAt_21 (by decide) ?_
    exact W.zret (ty := .boolean) (v := (0 : Int32)) hx hb hr (by decide) (fun t ht hW => ⟨⟨(0 : Int32), z1, rfl, hw, by rw [ht]; exact hP, hD⟩, hS.F ht⟩) hS.2.2 d_Nd_isKnownAt_22
  · have hw := hw.2 h2
    refine lv_aload_n hx hb d_Nd_isKnownAt_7 rfl (lv_at hl 0 rfl) ?_
    refine va_get (D := D) (ci := 2) (v := .ref (a1 8)) (C := R_Nd) (T := F_Nd) (N := 9) hx hb hts iw_Nd hown hK.1 hP 0 rfl rfl 6 (by decide) (hts _ mw_131) (fun _ h => h) rfl d_Nd_isKnownAt_8 ?_
    refine lv_iload_n hx hb d_Nd_isKnownAt_11 rfl (lv_at hl 1 rfl) ?_
    obtain ⟨hin, hw⟩ := hw
    refine va_iald (f := (mnd_knownCommands z1)) hx hb hK.1 hP 8 0 rfl rfl hin d_Nd_isKnownAt_12 ?_
    refine lv_iconst (v := (-1 : Int32)) hx hb d_Nd_isKnownAt_13 (by decide) ?_
    refine lv_icmp_eq (tgt := 21) hx hb d_Nd_isKnownAt_14 (by first | rfl | decide) (fun h3 => ?_) (fun h3 => ?_)
    · have hw := hw.1 h3
      refine lv_iconst (v := (0 : Int32)) hx hb d_Nd_isKnownAt_21 (by decide) ?_
      exact W.zret (ty := .boolean) (v := (0 : Int32)) hx hb hr (by decide) (fun t ht hW => ⟨⟨(0 : Int32), z1, rfl, hw, by rw [ht]; exact hP, hD⟩, hS.F ht⟩) hS.2.2 d_Nd_isKnownAt_22
    · have hw := hw.2 h3
      refine lv_iconst (v := (1 : Int32)) hx hb d_Nd_isKnownAt_17 (by decide) ?_
      refine lv_goto (tgt := 22) hx hb d_Nd_isKnownAt_18 (by first | rfl | decide) ?_
      exact W.zret (ty := .boolean) (v := (1 : Int32)) hx hb hr (by decide) (fun t ht hW => ⟨⟨(1 : Int32), z1, rfl, hw, by rw [ht]; exact hP, hD⟩, hS.F ht⟩) hS.2.2 d_Nd_isKnownAt_22
set_option maxHeartbeats 4000000 in
set_option maxRecDepth 100000 in
theorem c_Nd_mayAttempt (l : Launch) (D : va_G) (cI cN cZ : ClassId) (a1 : Nat → Nat) (z1 : MndT) (x1 : Int32) (post : Int32 → MndT → Prop) (hw : wp_Nd_mayAttempt z1 x1 post) : km_I l y_Nd_mayAttempt (.code y_Nd_mayAttempt b_Nd_mayAttempt 3 (some .boolean) :: kmW) rm_Nd_mayAttempt D kmC (kmT cI cN cZ) kmF kmM [.ref (a1 0), .int x1] (mndW cI cN cZ a1 z1) (fun (r : Int32) (u : MndT) => post r u) (fun (u : MndT) => (mndW cI cN cZ a1 u)) 0 0 := by
  refine km_startI (cc := b_Nd_mayAttempt) (maxL := 3) (ret := (some .boolean)) (by decide) rfl (Nat.le_of_ble_eq_true rfl) ?_
  intro p e s m below meth c A ls hE hA hK hP hD hS hl
  obtain ⟨hx, hb, hr, hml, hown, hts0, hlk, hnm⟩ := id hE
  have hts : ∀ w ∈ kmW, w.before ([.ref (a1 0), .int x1] : List Value).toArray s = true := fun w h => hts0 w (List.mem_cons_of_mem _ h)
  have hP : va_P D kmC (mndW cI cN cZ a1 z1) s.heap := hP
  have hl : lv_has ls 3 [(0, .ref (a1 0)), (1, .int x1)] := hl
  unfold wp_Nd_mayAttempt at hw
  refine lv_iload_n hx hb d_Nd_mayAttempt_0 rfl (lv_at hl 1 rfl) ?_
  refine lv_aload_n hx hb d_Nd_mayAttempt_1 rfl (lv_at hl 0 rfl) ?_
  refine va_get (D := D) (ci := 2) (v := .ref (a1 1)) (C := R_Nd) (T := F_Nd) (N := 9) hx hb hts iw_Nd hown hK.1 hP 0 rfl rfl 2 (by decide) (hts _ mw_123) (fun _ h => h) rfl d_Nd_mayAttempt_2 ?_
  refine va_getN (D := D) (ci := 4) (v := .int (mst_executed (mnd_state z1))) (C := R_St) (T := F_St) (N := 6) hx hb hts iw_St hown hK.1 hP 1 rfl rfl 2 (by decide) (km_nF hK 3 rfl) (fun _ h => h) rfl d_Nd_mayAttempt_5 ?_
  refine lv_icmp_le (tgt := 28) hx hb d_Nd_mayAttempt_8 (by first | rfl | decide) (fun h1 => ?_) (fun h1 => ?_)
  · have hw := hw.1 h1
    refine lv_iconst (v := (0 : Int32)) hx hb d_Nd_mayAttempt_28 (by decide) ?_
    refine lv_istore_n (lv' := [(2, .int (0 : Int32)), (0, .ref (a1 0)), (1, .int x1)]) hx hb d_Nd_mayAttempt_29 rfl hl (by decide) rfl (fun ls hl => ?_)
    refine lv_iload_n hx hb d_Nd_mayAttempt_30 rfl (lv_at hl 0 rfl) ?_
    refine lv_if_eq (tgt := 53) hx hb d_Nd_mayAttempt_31 (by first | rfl | decide) (fun h2 => ?_) (fun h2 => ?_)
    · skip
      refine lv_iconst (v := (0 : Int32)) hx hb d_Nd_mayAttempt_53 (by decide) ?_
      exact W.zret (ty := .boolean) (v := (0 : Int32)) hx hb hr (by decide) (fun t ht hW => ⟨⟨(0 : Int32), z1, rfl, hw, by rw [ht]; exact hP, hD⟩, hS.F ht⟩) hS.2.2 d_Nd_mayAttempt_54
    · exact absurd h2 (by decide)
  · have hw := hw.2 h1
    refine lv_iload_n hx hb d_Nd_mayAttempt_11 rfl (lv_at hl 1 rfl) ?_
    refine lv_aload_n hx hb d_Nd_mayAttempt_12 rfl (lv_at hl 0 rfl) ?_
    refine va_get (D := D) (ci := 2) (v := .ref (a1 1)) (C := R_Nd) (T := F_Nd) (N := 9) hx hb hts iw_Nd hown hK.1 hP 0 rfl rfl 2 (by decide) (hts _ mw_123) (fun _ h => h) rfl d_Nd_mayAttempt_13 ?_
    refine va_getN (D := D) (ci := 4) (v := .int (mst_executed (mnd_state z1))) (C := R_St) (T := F_St) (N := 6) hx hb hts iw_St hown hK.1 hP 1 rfl rfl 2 (by decide) (km_nF hK 3 rfl) (fun _ h => h) rfl d_Nd_mayAttempt_16 ?_
    refine lv_iconst (v := (2 : Int32)) hx hb d_Nd_mayAttempt_19 (by decide) ?_
    refine lv_iadd hx hb d_Nd_mayAttempt_20 ?_
    refine lv_icmp_gt (tgt := 28) hx hb d_Nd_mayAttempt_21 (by first | rfl | decide) (fun h3 => ?_) (fun h3 => ?_)
    · have hw := hw.1 h3
      refine lv_iconst (v := (0 : Int32)) hx hb d_Nd_mayAttempt_28 (by decide) ?_
      refine lv_istore_n (lv' := [(2, .int (0 : Int32)), (0, .ref (a1 0)), (1, .int x1)]) hx hb d_Nd_mayAttempt_29 rfl hl (by decide) rfl (fun ls hl => ?_)
      refine lv_iload_n hx hb d_Nd_mayAttempt_30 rfl (lv_at hl 0 rfl) ?_
      refine lv_if_eq (tgt := 53) hx hb d_Nd_mayAttempt_31 (by first | rfl | decide) (fun h4 => ?_) (fun h4 => ?_)
      · skip
        refine lv_iconst (v := (0 : Int32)) hx hb d_Nd_mayAttempt_53 (by decide) ?_
        exact W.zret (ty := .boolean) (v := (0 : Int32)) hx hb hr (by decide) (fun t ht hW => ⟨⟨(0 : Int32), z1, rfl, hw, by rw [ht]; exact hP, hD⟩, hS.F ht⟩) hS.2.2 d_Nd_mayAttempt_54
      · exact absurd h4 (by decide)
    · have hw := hw.2 h3
      refine lv_iconst (v := (1 : Int32)) hx hb d_Nd_mayAttempt_24 (by decide) ?_
      refine lv_goto (tgt := 29) hx hb d_Nd_mayAttempt_25 (by first | rfl | decide) ?_
      refine lv_istore_n (lv' := [(2, .int (1 : Int32)), (0, .ref (a1 0)), (1, .int x1)]) hx hb d_Nd_mayAttempt_29 rfl hl (by decide) rfl (fun ls hl => ?_)
      refine lv_iload_n hx hb d_Nd_mayAttempt_30 rfl (lv_at hl 0 rfl) ?_
      refine lv_if_eq (tgt := 53) hx hb d_Nd_mayAttempt_31 (by first | rfl | decide) (fun h5 => ?_) (fun h5 => ?_)
      · exact absurd h5 (by decide)
      · skip
        refine lv_iload_n hx hb d_Nd_mayAttempt_34 rfl (lv_at hl 2 rfl) ?_
        refine km_ci (wr := [(a1 0, .inr (2, [.int (mnd_number z1), .int (mnd_up z1), .ref (a1 1), .ref (a1 4), .int (mnd_last z1), .int (mnd_retired z1), .ref (a1 8), .int (mnd_pending z1), .ref (a1 9)])), (a1 1, .inr (4, [.int (mst_configuration (mnd_state z1)), .int (mst_membership (mnd_state z1)), .int (mst_executed (mnd_state z1)), .ref (a1 2), .int (mst_doneBits (mnd_state z1)), .ref (a1 3)])), (a1 2, .inl (cI, 4, .inl (mst_values (mnd_state z1)))), (a1 3, .inl (cI, 31, .inl (mst_answers (mnd_state z1)))), (a1 4, .inr (1, [.ref (a1 5), .ref (a1 6), .ref (a1 7)])), (a1 5, .inl (cI, 40, .inl (mlg_promisedBallots (mnd_ledger z1)))), (a1 6, .inl (cI, 40, .inl (mlg_voteBallots (mnd_ledger z1)))), (a1 7, .inl (cI, 40, .inl (mlg_voteCommands (mnd_ledger z1)))), (a1 8, .inl (cI, 9, .inl (mnd_knownCommands z1))), (a1 9, .inr (0, [.int (mat_slot (mnd_attempt z1)), .int (mat_ballot (mnd_attempt z1)), .int (mat_promisers (mnd_attempt z1)), .int (mat_voters (mnd_attempt z1)), .int (mat_bestBallot (mnd_attempt z1)), .int (mat_bestCommand (mnd_attempt z1)), .int (mat_command (mnd_attempt z1))]))]) (km_rSN (n := 1) hE kmG (c_Ch_isSlot l D cI cN cZ x1 _ hw) mw_251 (km_nM hK 11 rfl) mw_250 mw_1 (by decide) ⟨rfl, rfl, ⟨by decide, by decide⟩, by decide, by decide⟩ hK (km_cut hP [] rfl) (hD.sub [] (by decide) rfl) rfl hl.1 rfl (Nat.le_of_ble_eq_true rfl) d_Nd_mayAttempt_35) hP hD hS hA [] [0, 1, 2, 3, 4, 5, 6, 7, 8, 9] rfl rfl (by decide) (by decide) (fun r6 _ H locs hw hP hD hS => ?_)
        have hP := hP.sub (ws' := (mndW cI cN cZ a1 z1)) [0, 1, 2, 3, 4, 5, 6, 7, 8, 9] rfl
        have hD := hD.sub (ws' := (mndW cI cN cZ a1 z1)) [0, 1, 2, 3, 4, 5, 6, 7, 8, 9] (by decide) rfl
        refine lv_if_eq (tgt := 53) hx hb d_Nd_mayAttempt_38 (by first | rfl | decide) (fun h7 => ?_) (fun h7 => ?_)
        · have hw := hw.1 h7
          refine lv_iconst (v := (0 : Int32)) hx hb d_Nd_mayAttempt_53 (by decide) ?_
          exact W.zret (ty := .boolean) (v := (0 : Int32)) hx hb hr (by decide) (fun t ht hW => ⟨⟨(0 : Int32), z1, rfl, hw, by rw [ht]; exact hP, hD⟩, hS.F ht⟩) hS.2.2 d_Nd_mayAttempt_54
        · have hw := hw.2 h7
          refine lv_aload_n hx hb d_Nd_mayAttempt_41 rfl (lv_at hl 1 rfl) ?_
          refine lv_iload_n hx hb d_Nd_mayAttempt_42 rfl (lv_at hl 2 rfl) ?_
          refine km_ci (wr := []) (km_rV (n := 1) hE kmG (c_Nd_isKnownAt l D cI cN cZ a1 z1 x1 _ hw) mw_255 mw_252 mw_254 mp_6 mw_2 (by decide) ⟨rfl, rfl, ⟨by decide, by decide⟩, by decide, by decide⟩ hK (km_cut hP [0, 1, 2, 3, 4, 5, 6, 7, 8, 9] rfl) (hD.sub [0, 1, 2, 3, 4, 5, 6, 7, 8, 9] (by decide) rfl) (ci := 2) rfl hP (q0 := 0) rfl rfl hl.1 rfl (Nat.le_of_ble_eq_true rfl) d_Nd_mayAttempt_43) hP hD hS hA [0, 1, 2, 3, 4, 5, 6, 7, 8, 9] [] rfl rfl (by decide) (by decide) (fun r8 u9 H locs hw hP hD hS => ?_)
          have hP : va_P D kmC (mndW cI cN cZ a1 u9) H := hP
          have hD : va_D A (mndW cI cN cZ a1 u9) := hD
          refine lv_if_ne (tgt := 53) hx hb d_Nd_mayAttempt_46 (by first | rfl | decide) (fun h10 => ?_) (fun h10 => ?_)
          · have hw := hw.2 h10
            refine lv_iconst (v := (0 : Int32)) hx hb d_Nd_mayAttempt_53 (by decide) ?_
            exact W.zret (ty := .boolean) (v := (0 : Int32)) hx hb hr (by decide) (fun t ht hW => ⟨⟨(0 : Int32), u9, rfl, hw, by rw [ht]; exact hP, hD⟩, hS.F ht⟩) hS.2.2 d_Nd_mayAttempt_54
          · have hw := hw.1 h10
            refine lv_iconst (v := (1 : Int32)) hx hb d_Nd_mayAttempt_49 (by decide) ?_
            refine lv_goto (tgt := 54) hx hb d_Nd_mayAttempt_50 (by first | rfl | decide) ?_
            exact W.zret (ty := .boolean) (v := (1 : Int32)) hx hb hr (by decide) (fun t ht hW => ⟨⟨(1 : Int32), u9, rfl, hw, by rw [ht]; exact hP, hD⟩, hS.F ht⟩) hS.2.2 d_Nd_mayAttempt_54
set_option maxHeartbeats 4000000 in
set_option maxRecDepth 100000 in
theorem c_Nd_mayAsk (l : Launch) (D : va_G) (cI cN cZ : ClassId) (a1 : Nat → Nat) (z1 : MndT) (x1 : Int32) (post : Int32 → MndT → Prop) (hw : wp_Nd_mayAsk z1 x1 post) : km_I l y_Nd_mayAsk (.code y_Nd_mayAsk b_Nd_mayAsk 2 (some .boolean) :: kmW) rm_Nd_mayAsk D kmC (kmT cI cN cZ) kmF kmM [.ref (a1 0), .int x1] (mndW cI cN cZ a1 z1) (fun (r : Int32) (u : MndT) => post r u) (fun (u : MndT) => (mndW cI cN cZ a1 u)) 0 0 := by
  refine km_startI (cc := b_Nd_mayAsk) (maxL := 2) (ret := (some .boolean)) (by decide) rfl (Nat.le_of_ble_eq_true rfl) ?_
  intro p e s m below meth c A ls hE hA hK hP hD hS hl
  obtain ⟨hx, hb, hr, hml, hown, hts0, hlk, hnm⟩ := id hE
  have hts : ∀ w ∈ kmW, w.before ([.ref (a1 0), .int x1] : List Value).toArray s = true := fun w h => hts0 w (List.mem_cons_of_mem _ h)
  have hP : va_P D kmC (mndW cI cN cZ a1 z1) s.heap := hP
  have hl : lv_has ls 2 [(0, .ref (a1 0)), (1, .int x1)] := hl
  unfold wp_Nd_mayAsk at hw
  refine lv_aload_n hx hb d_Nd_mayAsk_0 rfl (lv_at hl 0 rfl) ?_
  refine va_get (D := D) (ci := 2) (v := .int (mnd_up z1)) (C := R_Nd) (T := F_Nd) (N := 9) hx hb hts iw_Nd hown hK.1 hP 0 rfl rfl 1 (by decide) (hts _ mw_121) (fun _ h => h) rfl d_Nd_mayAsk_1 ?_
  refine lv_if_eq (tgt := 32) hx hb d_Nd_mayAsk_4 (by first | rfl | decide) (fun h1 => ?_) (fun h1 => ?_)
  · have hw := hw.1 h1
    refine lv_iconst (v := (0 : Int32)) hx hb d_Nd_mayAsk_32 (by decide) ?_
    exact W.zret (ty := .boolean) (v := (0 : Int32)) hx hb hr (by decide) (fun t ht hW => ⟨⟨(0 : Int32), z1, rfl, hw, by rw [ht]; exact hP, hD⟩, hS.F ht⟩) hS.2.2 d_Nd_mayAsk_33
  · have hw := hw.2 h1
    refine lv_aload_n hx hb d_Nd_mayAsk_7 rfl (lv_at hl 0 rfl) ?_
    refine va_get (D := D) (ci := 2) (v := .ref (a1 9)) (C := R_Nd) (T := F_Nd) (N := 9) hx hb hts iw_Nd hown hK.1 hP 0 rfl rfl 8 (by decide) (hts _ mw_135) (fun _ h => h) rfl d_Nd_mayAsk_8 ?_
    refine km_ci (wr := [(a1 0, .inr (2, [.int (mnd_number z1), .int (mnd_up z1), .ref (a1 1), .ref (a1 4), .int (mnd_last z1), .int (mnd_retired z1), .ref (a1 8), .int (mnd_pending z1), .ref (a1 9)])), (a1 1, .inr (4, [.int (mst_configuration (mnd_state z1)), .int (mst_membership (mnd_state z1)), .int (mst_executed (mnd_state z1)), .ref (a1 2), .int (mst_doneBits (mnd_state z1)), .ref (a1 3)])), (a1 2, .inl (cI, 4, .inl (mst_values (mnd_state z1)))), (a1 3, .inl (cI, 31, .inl (mst_answers (mnd_state z1)))), (a1 4, .inr (1, [.ref (a1 5), .ref (a1 6), .ref (a1 7)])), (a1 5, .inl (cI, 40, .inl (mlg_promisedBallots (mnd_ledger z1)))), (a1 6, .inl (cI, 40, .inl (mlg_voteBallots (mnd_ledger z1)))), (a1 7, .inl (cI, 40, .inl (mlg_voteCommands (mnd_ledger z1)))), (a1 8, .inl (cI, 9, .inl (mnd_knownCommands z1)))]) (km_rVN (n := 0) hE kmG (c_At_isOpen l D cI cN cZ (fun j => a1 (j + 9)) (mnd_attempt z1) _ hw) mw_278 (km_nM hK 15 rfl) mw_277 mp_10 mw_5 (by decide) ⟨rfl, rfl, ⟨by decide, by decide⟩, by decide, by decide⟩ hK (km_cut hP [9] rfl) (hD.sub [9] (by decide) rfl) (ci := 0) rfl hP (q0 := 9) rfl rfl hl.1 rfl (Nat.le_of_ble_eq_true rfl) d_Nd_mayAsk_11) hP hD hS hA [9] [0, 1, 2, 3, 4, 5, 6, 7, 8] rfl rfl (by decide) (by decide) (fun r2 u3 H locs hw hP hD hS => ?_)
    have hP : va_P D kmC (mndW cI cN cZ a1 (mnd_s_attempt z1 u3)) H := hP
    have hD : va_D A (mndW cI cN cZ a1 (mnd_s_attempt z1 u3)) := hD
    refine lv_if_eq (tgt := 32) hx hb d_Nd_mayAsk_14 (by first | rfl | decide) (fun h4 => ?_) (fun h4 => ?_)
    · have hw := hw.1 h4
      refine lv_iconst (v := (0 : Int32)) hx hb d_Nd_mayAsk_32 (by decide) ?_
      exact W.zret (ty := .boolean) (v := (0 : Int32)) hx hb hr (by decide) (fun t ht hW => ⟨⟨(0 : Int32), (mnd_s_attempt z1 u3), rfl, hw, by rw [ht]; exact hP, hD⟩, hS.F ht⟩) hS.2.2 d_Nd_mayAsk_33
    · have hw := hw.2 h4
      refine lv_aload_n hx hb d_Nd_mayAsk_17 rfl (lv_at hl 0 rfl) ?_
      refine va_get (D := D) (ci := 2) (v := .ref (a1 1)) (C := R_Nd) (T := F_Nd) (N := 9) hx hb hts iw_Nd hown hK.1 hP 0 rfl rfl 2 (by decide) (hts _ mw_123) (fun _ h => h) rfl d_Nd_mayAsk_18 ?_
      refine lv_iload_n hx hb d_Nd_mayAsk_21 rfl (lv_at hl 1 rfl) ?_
      refine km_ci (wr := [(a1 0, .inr (2, [.int (mnd_number (mnd_s_attempt z1 u3)), .int (mnd_up (mnd_s_attempt z1 u3)), .ref (a1 1), .ref (a1 4), .int (mnd_last (mnd_s_attempt z1 u3)), .int (mnd_retired (mnd_s_attempt z1 u3)), .ref (a1 8), .int (mnd_pending (mnd_s_attempt z1 u3)), .ref (a1 9)])), (a1 4, .inr (1, [.ref (a1 5), .ref (a1 6), .ref (a1 7)])), (a1 5, .inl (cI, 40, .inl (mlg_promisedBallots (mnd_ledger (mnd_s_attempt z1 u3))))), (a1 6, .inl (cI, 40, .inl (mlg_voteBallots (mnd_ledger (mnd_s_attempt z1 u3))))), (a1 7, .inl (cI, 40, .inl (mlg_voteCommands (mnd_ledger (mnd_s_attempt z1 u3))))), (a1 8, .inl (cI, 9, .inl (mnd_knownCommands (mnd_s_attempt z1 u3)))), (a1 9, .inr (0, [.int (mat_slot (mnd_attempt (mnd_s_attempt z1 u3))), .int (mat_ballot (mnd_attempt (mnd_s_attempt z1 u3))), .int (mat_promisers (mnd_attempt (mnd_s_attempt z1 u3))), .int (mat_voters (mnd_attempt (mnd_s_attempt z1 u3))), .int (mat_bestBallot (mnd_attempt (mnd_s_attempt z1 u3))), .int (mat_bestCommand (mnd_attempt (mnd_s_attempt z1 u3))), .int (mat_command (mnd_attempt (mnd_s_attempt z1 u3)))]))]) (km_rVN (n := 1) hE kmG (c_St_hasMember l D cI cN cZ (fun j => a1 (j + 1)) (mnd_state z1) x1 _ hw) mw_236 (km_nM hK 16 rfl) mw_235 mp_4 mw_3 (by decide) ⟨rfl, rfl, ⟨by decide, by decide⟩, by decide, by decide⟩ hK (km_cut hP [1, 2, 3] rfl) (hD.sub [1, 2, 3] (by decide) rfl) (ci := 4) rfl hP (q0 := 1) rfl rfl hl.1 rfl (Nat.le_of_ble_eq_true rfl) d_Nd_mayAsk_22) hP hD hS hA [1, 2, 3] [0, 4, 5, 6, 7, 8, 9] rfl rfl (by decide) (by decide) (fun r5 u6 H locs hw hP hD hS => ?_)
      have hP := hP.sub (ws' := (mndW cI cN cZ a1 (mnd_s_state (mnd_s_attempt z1 u3) u6))) [0, 7, 8, 9, 1, 2, 3, 4, 5, 6] rfl
      have hD := hD.sub (ws' := (mndW cI cN cZ a1 (mnd_s_state (mnd_s_attempt z1 u3) u6))) [0, 7, 8, 9, 1, 2, 3, 4, 5, 6] (by decide) rfl
      refine lv_if_eq (tgt := 32) hx hb d_Nd_mayAsk_25 (by first | rfl | decide) (fun h7 => ?_) (fun h7 => ?_)
      · have hw := hw.1 h7
        refine lv_iconst (v := (0 : Int32)) hx hb d_Nd_mayAsk_32 (by decide) ?_
        exact W.zret (ty := .boolean) (v := (0 : Int32)) hx hb hr (by decide) (fun t ht hW => ⟨⟨(0 : Int32), (mnd_s_state (mnd_s_attempt z1 u3) u6), rfl, hw, by rw [ht]; exact hP, hD⟩, hS.F ht⟩) hS.2.2 d_Nd_mayAsk_33
      · have hw := hw.2 h7
        refine lv_iconst (v := (1 : Int32)) hx hb d_Nd_mayAsk_28 (by decide) ?_
        refine lv_goto (tgt := 33) hx hb d_Nd_mayAsk_29 (by first | rfl | decide) ?_
        exact W.zret (ty := .boolean) (v := (1 : Int32)) hx hb hr (by decide) (fun t ht hW => ⟨⟨(1 : Int32), (mnd_s_state (mnd_s_attempt z1 u3) u6), rfl, hw, by rw [ht]; exact hP, hD⟩, hS.F ht⟩) hS.2.2 d_Nd_mayAsk_33
set_option maxHeartbeats 4000000 in
set_option maxRecDepth 100000 in
theorem c_Nd_leastBallotAboveLast (l : Launch) (D : va_G) (cI cN cZ : ClassId) (a1 : Nat → Nat) (z1 : MndT) (post : Int32 → MndT → Prop) (hw : wp_Nd_leastBallotAboveLast z1 post) : km_I l y_Nd_leastBallotAboveLast (.code y_Nd_leastBallotAboveLast b_Nd_leastBallotAboveLast 2 (some .int) :: kmW) rm_Nd_leastBallotAboveLast D kmC (kmT cI cN cZ) kmF kmM [.ref (a1 0)] (mndW cI cN cZ a1 z1) (fun (r : Int32) (u : MndT) => post r u) (fun (u : MndT) => (mndW cI cN cZ a1 u)) 0 0 := by
  refine km_startI (cc := b_Nd_leastBallotAboveLast) (maxL := 2) (ret := (some .int)) (by decide) rfl (Nat.le_of_ble_eq_true rfl) ?_
  intro p e s m below meth c A ls hE hA hK hP hD hS hl
  obtain ⟨hx, hb, hr, hml, hown, hts0, hlk, hnm⟩ := id hE
  have hts : ∀ w ∈ kmW, w.before ([.ref (a1 0)] : List Value).toArray s = true := fun w h => hts0 w (List.mem_cons_of_mem _ h)
  have hP : va_P D kmC (mndW cI cN cZ a1 z1) s.heap := hP
  have hl : lv_has ls 2 [(0, .ref (a1 0))] := hl
  unfold wp_Nd_leastBallotAboveLast at hw
  refine lv_aload_n hx hb d_Nd_leastBallotAboveLast_0 rfl (lv_at hl 0 rfl) ?_
  refine va_get (D := D) (ci := 2) (v := .int (mnd_last z1)) (C := R_Nd) (T := F_Nd) (N := 9) hx hb hts iw_Nd hown hK.1 hP 0 rfl rfl 4 (by decide) (hts _ mw_127) (fun _ h => h) rfl d_Nd_leastBallotAboveLast_1 ?_
  refine lv_aload_n hx hb d_Nd_leastBallotAboveLast_4 rfl (lv_at hl 0 rfl) ?_
  refine va_get (D := D) (ci := 2) (v := .int (mnd_number z1)) (C := R_Nd) (T := F_Nd) (N := 9) hx hb hts iw_Nd hown hK.1 hP 0 rfl rfl 0 (by decide) (hts _ mw_120) (fun _ h => h) rfl d_Nd_leastBallotAboveLast_5 ?_
  refine lv_isub hx hb d_Nd_leastBallotAboveLast_8 ?_
  refine lv_iconst (v := (0 : Int32)) hx hb d_Nd_leastBallotAboveLast_9 (by decide) ?_
  refine va_mmax hx hb (hml.trans hl.1.symm) hown (hts _ mw_260) (hts _ mw_261) (hts _ mw_10) (hts _ mw_262) (Nat.le_of_ble_eq_true rfl) (Nat.le_of_ble_eq_true rfl) (Nat.le_of_ble_eq_true rfl) (Nat.le_of_ble_eq_true rfl) d_Nd_leastBallotAboveLast_10 ?_
  refine lv_bipush (v := (6 : Int32)) hx hb d_Nd_leastBallotAboveLast_13 (by decide) ?_
  refine lv_idiv hx hb d_Nd_leastBallotAboveLast_15 (by decide) ?_
  refine lv_iconst (v := (1 : Int32)) hx hb d_Nd_leastBallotAboveLast_16 (by decide) ?_
  refine lv_iadd hx hb d_Nd_leastBallotAboveLast_17 ?_
  refine lv_topi (fun v1 ev1 => ?_)
  have hw := hw v1 ev1
  refine lv_istore_n (lv' := [(1, .int v1), (0, .ref (a1 0))]) hx hb d_Nd_leastBallotAboveLast_18 rfl hl (by decide) rfl (fun ls hl => ?_)
  refine lv_bipush (v := (6 : Int32)) hx hb d_Nd_leastBallotAboveLast_19 (by decide) ?_
  refine lv_iload_n hx hb d_Nd_leastBallotAboveLast_21 rfl (lv_at hl 0 rfl) ?_
  refine lv_imul hx hb d_Nd_leastBallotAboveLast_22 ?_
  refine lv_aload_n hx hb d_Nd_leastBallotAboveLast_23 rfl (lv_at hl 1 rfl) ?_
  refine va_get (D := D) (ci := 2) (v := .int (mnd_number z1)) (C := R_Nd) (T := F_Nd) (N := 9) hx hb hts iw_Nd hown hK.1 hP 0 rfl rfl 0 (by decide) (hts _ mw_120) (fun _ h => h) rfl d_Nd_leastBallotAboveLast_24 ?_
  refine lv_iadd hx hb d_Nd_leastBallotAboveLast_27 ?_
  exact W.iret (v := (((6 : Int32) * v1) + (mnd_number z1))) hx hb hr (fun t ht hW => ⟨⟨(((6 : Int32) * v1) + (mnd_number z1)), z1, rfl, hw, by rw [ht]; exact hP, hD⟩, hS.F ht⟩) hS.2.2 d_Nd_leastBallotAboveLast_28
set_option maxHeartbeats 4000000 in
set_option maxRecDepth 100000 in
theorem c_Nd_settleCommand (l : Launch) (D : va_G) (cI cN cZ : ClassId) (a1 : Nat → Nat) (z1 : MndT) (post : MndT → Prop) (hw : wp_Nd_settleCommand z1 post) : km_V l y_Nd_settleCommand (.code y_Nd_settleCommand b_Nd_settleCommand 1 none :: kmW) rm_Nd_settleCommand D kmC (kmT cI cN cZ) kmF kmM [.ref (a1 0)] (mndW cI cN cZ a1 z1) (fun (u : MndT) => post u) (fun (u : MndT) => (mndW cI cN cZ a1 u)) 0 0 := by
  refine km_startV (cc := b_Nd_settleCommand) (maxL := 1) (ret := none) (by decide) rfl (Nat.le_of_ble_eq_true rfl) ?_
  intro p e s m below meth c A ls hE hA hK hP hD hS hl
  obtain ⟨hx, hb, hr, hml, hown, hts0, hlk, hnm⟩ := id hE
  have hts : ∀ w ∈ kmW, w.before ([.ref (a1 0)] : List Value).toArray s = true := fun w h => hts0 w (List.mem_cons_of_mem _ h)
  have hP : va_P D kmC (mndW cI cN cZ a1 z1) s.heap := hP
  have hl : lv_has ls 1 [(0, .ref (a1 0))] := hl
  unfold wp_Nd_settleCommand at hw
  refine lv_aload_n hx hb d_Nd_settleCommand_0 rfl (lv_at hl 0 rfl) ?_
  refine va_get (D := D) (ci := 2) (v := .ref (a1 9)) (C := R_Nd) (T := F_Nd) (N := 9) hx hb hts iw_Nd hown hK.1 hP 0 rfl rfl 8 (by decide) (hts _ mw_135) (fun _ h => h) rfl d_Nd_settleCommand_1 ?_
  refine va_getN (D := D) (ci := 0) (v := .int (mat_command (mnd_attempt z1))) (C := R_At) (T := F_At) (N := 7) hx hb hts iw_At hown hK.1 hP 9 rfl rfl 6 (by decide) (km_nF hK 18 rfl) (fun _ h => h) rfl d_Nd_settleCommand_4 ?_
  refine lv_iconst (v := (-1 : Int32)) hx hb d_Nd_settleCommand_7 (by decide) ?_
  refine lv_icmp_eq (tgt := 12) hx hb d_Nd_settleCommand_8 (by first | rfl | decide) (fun h1 => ?_) (fun h1 => ?_)
  · have hw := hw.1 h1
    refine lv_aload_n hx hb d_Nd_settleCommand_12 rfl (lv_at hl 0 rfl) ?_
    refine va_get (D := D) (ci := 2) (v := .ref (a1 9)) (C := R_Nd) (T := F_Nd) (N := 9) hx hb hts iw_Nd hown hK.1 hP 0 rfl rfl 8 (by decide) (hts _ mw_135) (fun _ h => h) rfl d_Nd_settleCommand_13 ?_
    refine va_getN (D := D) (ci := 0) (v := .int (mat_bestBallot (mnd_attempt z1))) (C := R_At) (T := F_At) (N := 7) hx hb hts iw_At hown hK.1 hP 9 rfl rfl 4 (by decide) (km_nF hK 16 rfl) (fun _ h => h) rfl d_Nd_settleCommand_16 ?_
    refine lv_if_eq (tgt := 39) hx hb d_Nd_settleCommand_19 (by first | rfl | decide) (fun h2 => ?_) (fun h2 => ?_)
    · have hw := hw.1 h2
      refine lv_aload_n hx hb d_Nd_settleCommand_39 rfl (lv_at hl 0 rfl) ?_
      refine va_get (D := D) (ci := 2) (v := .int (mnd_pending z1)) (C := R_Nd) (T := F_Nd) (N := 9) hx hb hts iw_Nd hown hK.1 hP 0 rfl rfl 7 (by decide) (hts _ mw_133) (fun _ h => h) rfl d_Nd_settleCommand_40 ?_
      refine lv_if_eq (tgt := 74) hx hb d_Nd_settleCommand_43 (by first | rfl | decide) (fun h3 => ?_) (fun h3 => ?_)
      · have hw := hw.1 h3
        refine lv_aload_n hx hb d_Nd_settleCommand_74 rfl (lv_at hl 0 rfl) ?_
        refine va_get (D := D) (ci := 2) (v := .ref (a1 9)) (C := R_Nd) (T := F_Nd) (N := 9) hx hb hts iw_Nd hown hK.1 hP 0 rfl rfl 8 (by decide) (hts _ mw_135) (fun _ h => h) rfl d_Nd_settleCommand_75 ?_
        refine lv_iconst (v := (0 : Int32)) hx hb d_Nd_settleCommand_78 (by decide) ?_
        refine va_putN (D := D) (ci := 0) (v := .int (0 : Int32)) (ty := .int) (C := R_At) (T := F_At) (N := 7) hx hb hts iw_At t_At t_At_ok n_At hown hK.1 hP hD hS 9 rfl rfl 6 (by decide) (km_nF hK 18 rfl) (fun _ h => h) rfl (t_At_ok 6 (by decide)) rfl rfl (Nat.le_of_ble_eq_true rfl) d_Nd_settleCommand_79 (fun H locs hP hD hS => ?_)
        have hP : va_P D kmC (mndW cI cN cZ a1 (mnd_s_attempt_command z1 (0 : Int32))) H := hP
        have hD : va_D A (mndW cI cN cZ a1 (mnd_s_attempt_command z1 (0 : Int32))) := hD
        exact W.vret hx hb hr (fun t ht hW => ⟨⟨(mnd_s_attempt_command z1 (0 : Int32)), rfl, hw, by rw [ht]; exact hP, hD⟩, hS.F ht⟩) hS.2.2 d_Nd_settleCommand_82
      · have hw := hw.2 h3
        refine lv_aload_n hx hb d_Nd_settleCommand_46 rfl (lv_at hl 0 rfl) ?_
        refine va_get (D := D) (ci := 2) (v := .ref (a1 1)) (C := R_Nd) (T := F_Nd) (N := 9) hx hb hts iw_Nd hown hK.1 hP 0 rfl rfl 2 (by decide) (hts _ mw_123) (fun _ h => h) rfl d_Nd_settleCommand_47 ?_
        refine lv_aload_n hx hb d_Nd_settleCommand_50 rfl (lv_at hl 0 rfl) ?_
        refine va_get (D := D) (ci := 2) (v := .int (mnd_pending z1)) (C := R_Nd) (T := F_Nd) (N := 9) hx hb hts iw_Nd hown hK.1 hP 0 rfl rfl 7 (by decide) (hts _ mw_133) (fun _ h => h) rfl d_Nd_settleCommand_51 ?_
        refine km_ci (wr := [(a1 0, .inr (2, [.int (mnd_number z1), .int (mnd_up z1), .ref (a1 1), .ref (a1 4), .int (mnd_last z1), .int (mnd_retired z1), .ref (a1 8), .int (mnd_pending z1), .ref (a1 9)])), (a1 4, .inr (1, [.ref (a1 5), .ref (a1 6), .ref (a1 7)])), (a1 5, .inl (cI, 40, .inl (mlg_promisedBallots (mnd_ledger z1)))), (a1 6, .inl (cI, 40, .inl (mlg_voteBallots (mnd_ledger z1)))), (a1 7, .inl (cI, 40, .inl (mlg_voteCommands (mnd_ledger z1)))), (a1 8, .inl (cI, 9, .inl (mnd_knownCommands z1))), (a1 9, .inr (0, [.int (mat_slot (mnd_attempt z1)), .int (mat_ballot (mnd_attempt z1)), .int (mat_promisers (mnd_attempt z1)), .int (mat_voters (mnd_attempt z1)), .int (mat_bestBallot (mnd_attempt z1)), .int (mat_bestCommand (mnd_attempt z1)), .int (mat_command (mnd_attempt z1))]))]) (km_rVN (n := 1) hE kmG (c_St_isDone l D cI cN cZ (fun j => a1 (j + 1)) (mnd_state z1) (mnd_pending z1) _ hw) mw_232 (km_nM hK 25 rfl) mw_231 mp_3 mw_3 (by decide) ⟨rfl, rfl, ⟨by decide, by decide⟩, by decide, by decide⟩ hK (km_cut hP [1, 2, 3] rfl) (hD.sub [1, 2, 3] (by decide) rfl) (ci := 4) rfl hP (q0 := 1) rfl rfl hl.1 rfl (Nat.le_of_ble_eq_true rfl) d_Nd_settleCommand_54) hP hD hS hA [1, 2, 3] [0, 4, 5, 6, 7, 8, 9] rfl rfl (by decide) (by decide) (fun r4 u5 H locs hw hP hD hS => ?_)
        have hP := hP.sub (ws' := (mndW cI cN cZ a1 (mnd_s_state z1 u5))) [0, 7, 8, 9, 1, 2, 3, 4, 5, 6] rfl
        have hD := hD.sub (ws' := (mndW cI cN cZ a1 (mnd_s_state z1 u5))) [0, 7, 8, 9, 1, 2, 3, 4, 5, 6] (by decide) rfl
        refine lv_if_ne (tgt := 74) hx hb d_Nd_settleCommand_57 (by first | rfl | decide) (fun h6 => ?_) (fun h6 => ?_)
        · have hw := hw.2 h6
          refine lv_aload_n hx hb d_Nd_settleCommand_74 rfl (lv_at hl 0 rfl) ?_
          refine va_get (D := D) (ci := 2) (v := .ref (a1 9)) (C := R_Nd) (T := F_Nd) (N := 9) hx hb hts iw_Nd hown hK.1 hP 0 rfl rfl 8 (by decide) (hts _ mw_135) (fun _ h => h) rfl d_Nd_settleCommand_75 ?_
          refine lv_iconst (v := (0 : Int32)) hx hb d_Nd_settleCommand_78 (by decide) ?_
          refine va_putN (D := D) (ci := 0) (v := .int (0 : Int32)) (ty := .int) (C := R_At) (T := F_At) (N := 7) hx hb hts iw_At t_At t_At_ok n_At hown hK.1 hP hD hS 9 rfl rfl 6 (by decide) (km_nF hK 18 rfl) (fun _ h => h) rfl (t_At_ok 6 (by decide)) rfl rfl (Nat.le_of_ble_eq_true rfl) d_Nd_settleCommand_79 (fun H locs hP hD hS => ?_)
          have hP : va_P D kmC (mndW cI cN cZ a1 (mnd_s_attempt_command (mnd_s_state z1 u5) (0 : Int32))) H := hP
          have hD : va_D A (mndW cI cN cZ a1 (mnd_s_attempt_command (mnd_s_state z1 u5) (0 : Int32))) := hD
          exact W.vret hx hb hr (fun t ht hW => ⟨⟨(mnd_s_attempt_command (mnd_s_state z1 u5) (0 : Int32)), rfl, hw, by rw [ht]; exact hP, hD⟩, hS.F ht⟩) hS.2.2 d_Nd_settleCommand_82
        · have hw := hw.1 h6
          refine lv_aload_n hx hb d_Nd_settleCommand_60 rfl (lv_at hl 0 rfl) ?_
          refine va_get (D := D) (ci := 2) (v := .ref (a1 9)) (C := R_Nd) (T := F_Nd) (N := 9) hx hb hts iw_Nd hown hK.1 hP 0 rfl rfl 8 (by decide) (hts _ mw_135) (fun _ h => h) rfl d_Nd_settleCommand_61 ?_
          refine lv_aload_n hx hb d_Nd_settleCommand_64 rfl (lv_at hl 0 rfl) ?_
          refine va_get (D := D) (ci := 2) (v := .int (mnd_pending z1)) (C := R_Nd) (T := F_Nd) (N := 9) hx hb hts iw_Nd hown hK.1 hP 0 rfl rfl 7 (by decide) (hts _ mw_133) (fun _ h => h) rfl d_Nd_settleCommand_65 ?_
          refine va_putN (D := D) (ci := 0) (v := .int (mnd_pending z1)) (ty := .int) (C := R_At) (T := F_At) (N := 7) hx hb hts iw_At t_At t_At_ok n_At hown hK.1 hP hD hS 9 rfl rfl 6 (by decide) (km_nF hK 18 rfl) (fun _ h => h) rfl (t_At_ok 6 (by decide)) rfl rfl (Nat.le_of_ble_eq_true rfl) d_Nd_settleCommand_68 (fun H locs hP hD hS => ?_)
          have hP : va_P D kmC (mndW cI cN cZ a1 (mnd_s_attempt_command (mnd_s_state z1 u5) (mnd_pending z1))) H := hP
          have hD : va_D A (mndW cI cN cZ a1 (mnd_s_attempt_command (mnd_s_state z1 u5) (mnd_pending z1))) := hD
          refine lv_goto (tgt := 82) hx hb d_Nd_settleCommand_71 (by first | rfl | decide) ?_
          exact W.vret hx hb hr (fun t ht hW => ⟨⟨(mnd_s_attempt_command (mnd_s_state z1 u5) (mnd_pending z1)), rfl, hw, by rw [ht]; exact hP, hD⟩, hS.F ht⟩) hS.2.2 d_Nd_settleCommand_82
    · have hw := hw.2 h2
      refine lv_aload_n hx hb d_Nd_settleCommand_22 rfl (lv_at hl 0 rfl) ?_
      refine va_get (D := D) (ci := 2) (v := .ref (a1 9)) (C := R_Nd) (T := F_Nd) (N := 9) hx hb hts iw_Nd hown hK.1 hP 0 rfl rfl 8 (by decide) (hts _ mw_135) (fun _ h => h) rfl d_Nd_settleCommand_23 ?_
      refine lv_aload_n hx hb d_Nd_settleCommand_26 rfl (lv_at hl 0 rfl) ?_
      refine va_get (D := D) (ci := 2) (v := .ref (a1 9)) (C := R_Nd) (T := F_Nd) (N := 9) hx hb hts iw_Nd hown hK.1 hP 0 rfl rfl 8 (by decide) (hts _ mw_135) (fun _ h => h) rfl d_Nd_settleCommand_27 ?_
      refine va_getN (D := D) (ci := 0) (v := .int (mat_bestCommand (mnd_attempt z1))) (C := R_At) (T := F_At) (N := 7) hx hb hts iw_At hown hK.1 hP 9 rfl rfl 5 (by decide) (km_nF hK 17 rfl) (fun _ h => h) rfl d_Nd_settleCommand_30 ?_
      refine va_putN (D := D) (ci := 0) (v := .int (mat_bestCommand (mnd_attempt z1))) (ty := .int) (C := R_At) (T := F_At) (N := 7) hx hb hts iw_At t_At t_At_ok n_At hown hK.1 hP hD hS 9 rfl rfl 6 (by decide) (km_nF hK 18 rfl) (fun _ h => h) rfl (t_At_ok 6 (by decide)) rfl rfl (Nat.le_of_ble_eq_true rfl) d_Nd_settleCommand_33 (fun H locs hP hD hS => ?_)
      have hP : va_P D kmC (mndW cI cN cZ a1 (mnd_s_attempt_command z1 (mat_bestCommand (mnd_attempt z1)))) H := hP
      have hD : va_D A (mndW cI cN cZ a1 (mnd_s_attempt_command z1 (mat_bestCommand (mnd_attempt z1)))) := hD
      refine lv_goto (tgt := 82) hx hb d_Nd_settleCommand_36 (by first | rfl | decide) ?_
      exact W.vret hx hb hr (fun t ht hW => ⟨⟨(mnd_s_attempt_command z1 (mat_bestCommand (mnd_attempt z1))), rfl, hw, by rw [ht]; exact hP, hD⟩, hS.F ht⟩) hS.2.2 d_Nd_settleCommand_82
  · have hw := hw.2 h1
    exact W.vret hx hb hr (fun t ht hW => ⟨⟨z1, rfl, hw, by rw [ht]; exact hP, hD⟩, hS.F ht⟩) hS.2.2 d_Nd_settleCommand_11
set_option maxHeartbeats 4000000 in
set_option maxRecDepth 100000 in
theorem c_Nd_leaveList (l : Launch) (D : va_G) (cI cN cZ : ClassId) (a1 : Nat → Nat) (z1 : MndT) (post : MndT → Prop) (hw : wp_Nd_leaveList z1 post) : km_V l y_Nd_leaveList (.code y_Nd_leaveList b_Nd_leaveList 1 none :: kmW) rm_Nd_leaveList D kmC (kmT cI cN cZ) kmF kmM [.ref (a1 0)] (mndW cI cN cZ a1 z1) (fun (u : MndT) => post u) (fun (u : MndT) => (mndW cI cN cZ a1 u)) 0 0 := by
  refine km_startV (cc := b_Nd_leaveList) (maxL := 1) (ret := none) (by decide) rfl (Nat.le_of_ble_eq_true rfl) ?_
  intro p e s m below meth c A ls hE hA hK hP hD hS hl
  obtain ⟨hx, hb, hr, hml, hown, hts0, hlk, hnm⟩ := id hE
  have hts : ∀ w ∈ kmW, w.before ([.ref (a1 0)] : List Value).toArray s = true := fun w h => hts0 w (List.mem_cons_of_mem _ h)
  have hP : va_P D kmC (mndW cI cN cZ a1 z1) s.heap := hP
  have hl : lv_has ls 1 [(0, .ref (a1 0))] := hl
  unfold wp_Nd_leaveList at hw
  refine lv_aload_n hx hb d_Nd_leaveList_0 rfl (lv_at hl 0 rfl) ?_
  refine va_get (D := D) (ci := 2) (v := .ref (a1 8)) (C := R_Nd) (T := F_Nd) (N := 9) hx hb hts iw_Nd hown hK.1 hP 0 rfl rfl 6 (by decide) (hts _ mw_131) (fun _ h => h) rfl d_Nd_leaveList_1 ?_
  refine lv_iconst (v := (-1 : Int32)) hx hb d_Nd_leaveList_4 (by decide) ?_
  refine km_cv (wr := [(a1 0, .inr (2, [.int (mnd_number z1), .int (mnd_up z1), .ref (a1 1), .ref (a1 4), .int (mnd_last z1), .int (mnd_retired z1), .ref (a1 8), .int (mnd_pending z1), .ref (a1 9)])), (a1 1, .inr (4, [.int (mst_configuration (mnd_state z1)), .int (mst_membership (mnd_state z1)), .int (mst_executed (mnd_state z1)), .ref (a1 2), .int (mst_doneBits (mnd_state z1)), .ref (a1 3)])), (a1 2, .inl (cI, 4, .inl (mst_values (mnd_state z1)))), (a1 3, .inl (cI, 31, .inl (mst_answers (mnd_state z1)))), (a1 4, .inr (1, [.ref (a1 5), .ref (a1 6), .ref (a1 7)])), (a1 5, .inl (cI, 40, .inl (mlg_promisedBallots (mnd_ledger z1)))), (a1 6, .inl (cI, 40, .inl (mlg_voteBallots (mnd_ledger z1)))), (a1 7, .inl (cI, 40, .inl (mlg_voteCommands (mnd_ledger z1)))), (a1 9, .inr (0, [.int (mat_slot (mnd_attempt z1)), .int (mat_ballot (mnd_attempt z1)), .int (mat_promisers (mnd_attempt z1)), .int (mat_voters (mnd_attempt z1)), .int (mat_bestBallot (mnd_attempt z1)), .int (mat_bestCommand (mnd_attempt z1)), .int (mat_command (mnd_attempt z1))]))]) (km_rS (n := 2) hE kmG (c_Ja_fill l D cI cN cZ (fun j => a1 (j + 8)) (mnd_knownCommands z1) (-1 : Int32) _ hw) mw_119 mw_117 mw_118 mw_6 (by decide) ⟨rfl, rfl, ⟨by decide, by decide⟩, by decide, by decide⟩ hK (km_cut hP [8] rfl) (hD.sub [8] (by decide) rfl) rfl hl.1 rfl (Nat.le_of_ble_eq_true rfl) d_Nd_leaveList_5) hP hD hS hA [8] [0, 1, 2, 3, 4, 5, 6, 7, 9] rfl rfl (by decide) (by decide) (fun u2 H locs hw hP hD hS => ?_)
  have hP := hP.sub (ws' := (mndW cI cN cZ a1 (mnd_s_knownCommands z1 u2))) [0, 1, 2, 3, 4, 5, 6, 7, 9, 8] rfl
  have hD := hD.sub (ws' := (mndW cI cN cZ a1 (mnd_s_knownCommands z1 u2))) [0, 1, 2, 3, 4, 5, 6, 7, 9, 8] (by decide) rfl
  refine lv_aload_n hx hb d_Nd_leaveList_8 rfl (lv_at hl 0 rfl) ?_
  refine va_get (D := D) (ci := 2) (v := .ref (a1 9)) (C := R_Nd) (T := F_Nd) (N := 9) hx hb hts iw_Nd hown hK.1 hP 0 rfl rfl 8 (by decide) (hts _ mw_135) (fun _ h => h) rfl d_Nd_leaveList_9 ?_
  refine km_cv (wr := [(a1 0, .inr (2, [.int (mnd_number (mnd_s_knownCommands z1 u2)), .int (mnd_up (mnd_s_knownCommands z1 u2)), .ref (a1 1), .ref (a1 4), .int (mnd_last (mnd_s_knownCommands z1 u2)), .int (mnd_retired (mnd_s_knownCommands z1 u2)), .ref (a1 8), .int (mnd_pending (mnd_s_knownCommands z1 u2)), .ref (a1 9)])), (a1 1, .inr (4, [.int (mst_configuration (mnd_state (mnd_s_knownCommands z1 u2))), .int (mst_membership (mnd_state (mnd_s_knownCommands z1 u2))), .int (mst_executed (mnd_state (mnd_s_knownCommands z1 u2))), .ref (a1 2), .int (mst_doneBits (mnd_state (mnd_s_knownCommands z1 u2))), .ref (a1 3)])), (a1 2, .inl (cI, 4, .inl (mst_values (mnd_state (mnd_s_knownCommands z1 u2))))), (a1 3, .inl (cI, 31, .inl (mst_answers (mnd_state (mnd_s_knownCommands z1 u2))))), (a1 4, .inr (1, [.ref (a1 5), .ref (a1 6), .ref (a1 7)])), (a1 5, .inl (cI, 40, .inl (mlg_promisedBallots (mnd_ledger (mnd_s_knownCommands z1 u2))))), (a1 6, .inl (cI, 40, .inl (mlg_voteBallots (mnd_ledger (mnd_s_knownCommands z1 u2))))), (a1 7, .inl (cI, 40, .inl (mlg_voteCommands (mnd_ledger (mnd_s_knownCommands z1 u2))))), (a1 8, .inl (cI, 9, .inl (mnd_knownCommands (mnd_s_knownCommands z1 u2))))]) (km_rVN (n := 0) hE kmG (c_At_end l D cI cN cZ (fun j => a1 (j + 9)) (mnd_attempt z1) _ hw) mw_305 (km_nM hK 20 rfl) mw_304 mp_15 mw_5 (by decide) ⟨rfl, rfl, ⟨by decide, by decide⟩, by decide, by decide⟩ hK (km_cut hP [9] rfl) (hD.sub [9] (by decide) rfl) (ci := 0) rfl hP (q0 := 9) rfl rfl hl.1 rfl (Nat.le_of_ble_eq_true rfl) d_Nd_leaveList_12) hP hD hS hA [9] [0, 1, 2, 3, 4, 5, 6, 7, 8] rfl rfl (by decide) (by decide) (fun u4 H locs hw hP hD hS => ?_)
  have hP : va_P D kmC (mndW cI cN cZ a1 (mnd_s_attempt (mnd_s_knownCommands z1 u2) u4)) H := hP
  have hD : va_D A (mndW cI cN cZ a1 (mnd_s_attempt (mnd_s_knownCommands z1 u2) u4)) := hD
  exact W.vret hx hb hr (fun t ht hW => ⟨⟨(mnd_s_attempt (mnd_s_knownCommands z1 u2) u4), rfl, hw, by rw [ht]; exact hP, hD⟩, hS.F ht⟩) hS.2.2 d_Nd_leaveList_15
set_option maxHeartbeats 4000000 in
set_option maxRecDepth 100000 in
theorem c_Nd_goDown (l : Launch) (D : va_G) (cI cN cZ : ClassId) (a1 : Nat → Nat) (z1 : MndT) (post : MndT → Prop) (hw : wp_Nd_goDown z1 post) : km_V l y_Nd_goDown (.code y_Nd_goDown b_Nd_goDown 1 none :: kmW) rm_Nd_goDown D kmC (kmT cI cN cZ) kmF kmM [.ref (a1 0)] (mndW cI cN cZ a1 z1) (fun (u : MndT) => post u) (fun (u : MndT) => (mndW cI cN cZ a1 u)) 0 0 := by
  refine km_startV (cc := b_Nd_goDown) (maxL := 1) (ret := none) (by decide) rfl (Nat.le_of_ble_eq_true rfl) ?_
  intro p e s m below meth c A ls hE hA hK hP hD hS hl
  obtain ⟨hx, hb, hr, hml, hown, hts0, hlk, hnm⟩ := id hE
  have hts : ∀ w ∈ kmW, w.before ([.ref (a1 0)] : List Value).toArray s = true := fun w h => hts0 w (List.mem_cons_of_mem _ h)
  have hP : va_P D kmC (mndW cI cN cZ a1 z1) s.heap := hP
  have hl : lv_has ls 1 [(0, .ref (a1 0))] := hl
  unfold wp_Nd_goDown at hw
  refine lv_aload_n hx hb d_Nd_goDown_0 rfl (lv_at hl 0 rfl) ?_
  refine lv_iconst (v := (0 : Int32)) hx hb d_Nd_goDown_1 (by decide) ?_
  refine va_put (D := D) (ci := 2) (v := .int (0 : Int32)) (ty := .boolean) (C := R_Nd) (T := F_Nd) (N := 9) hx hb hts iw_Nd t_Nd t_Nd_ok n_Nd hown hK.1 hP hD hS 0 rfl rfl 1 (by decide) (hts _ mw_121) (fun _ h => h) rfl (t_Nd_ok 1 (by decide)) rfl rfl (Nat.le_of_ble_eq_true rfl) d_Nd_goDown_2 (fun H locs hP hD hS => ?_)
  have hP : va_P D kmC (mndW cI cN cZ a1 (mnd_s_up z1 (0 : Int32))) H := hP
  have hD : va_D A (mndW cI cN cZ a1 (mnd_s_up z1 (0 : Int32))) := hD
  refine lv_aload_n hx hb d_Nd_goDown_5 rfl (lv_at hl 0 rfl) ?_
  refine lv_iconst (v := (0 : Int32)) hx hb d_Nd_goDown_6 (by decide) ?_
  refine va_put (D := D) (ci := 2) (v := .int (0 : Int32)) (ty := .int) (C := R_Nd) (T := F_Nd) (N := 9) hx hb hts iw_Nd t_Nd t_Nd_ok n_Nd hown hK.1 hP hD hS 0 rfl rfl 7 (by decide) (hts _ mw_133) (fun _ h => h) rfl (t_Nd_ok 7 (by decide)) rfl rfl (Nat.le_of_ble_eq_true rfl) d_Nd_goDown_7 (fun H locs hP hD hS => ?_)
  have hP : va_P D kmC (mndW cI cN cZ a1 (mnd_s_pending (mnd_s_up z1 (0 : Int32)) (0 : Int32))) H := hP
  have hD : va_D A (mndW cI cN cZ a1 (mnd_s_pending (mnd_s_up z1 (0 : Int32)) (0 : Int32))) := hD
  refine lv_aload_n hx hb d_Nd_goDown_10 rfl (lv_at hl 0 rfl) ?_
  refine km_cv (wr := []) (km_rV (n := 0) hE kmG (c_Nd_leaveList l D cI cN cZ a1 (mnd_s_pending (mnd_s_up z1 (0 : Int32)) (0 : Int32)) _ hw) mw_301 mw_298 mw_300 mp_14 mw_2 (by decide) ⟨rfl, rfl, ⟨by decide, by decide⟩, by decide, by decide⟩ hK (km_cut hP [0, 1, 2, 3, 4, 5, 6, 7, 8, 9] rfl) (hD.sub [0, 1, 2, 3, 4, 5, 6, 7, 8, 9] (by decide) rfl) (ci := 2) rfl hP (q0 := 0) rfl rfl hl.1 rfl (Nat.le_of_ble_eq_true rfl) d_Nd_goDown_11) hP hD hS hA [0, 1, 2, 3, 4, 5, 6, 7, 8, 9] [] rfl rfl (by decide) (by decide) (fun u2 H locs hw hP hD hS => ?_)
  have hP : va_P D kmC (mndW cI cN cZ a1 u2) H := hP
  have hD : va_D A (mndW cI cN cZ a1 u2) := hD
  exact W.vret hx hb hr (fun t ht hW => ⟨⟨u2, rfl, hw, by rw [ht]; exact hP, hD⟩, hS.F ht⟩) hS.2.2 d_Nd_goDown_14
