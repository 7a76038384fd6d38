theorem d_Nd_executeNext_0 : decode b_Nd_executeNext 0 = .ok (.aload_n 0, 1) := by decide +kernel
theorem d_Nd_executeNext_1 : decode b_Nd_executeNext 1 = .ok (.getfield 18, 3) := by decide +kernel
theorem d_Nd_executeNext_4 : decode b_Nd_executeNext 4 = .ok (.getfield 63, 3) := by decide +kernel
theorem d_Nd_executeNext_7 : decode b_Nd_executeNext 7 = .ok (.iconst 1, 1) := by decide +kernel
theorem d_Nd_executeNext_8 : decode b_Nd_executeNext 8 = .ok (.iadd, 1) := by decide +kernel
theorem d_Nd_executeNext_9 : decode b_Nd_executeNext 9 = .ok (.istore_n 2, 1) := by decide +kernel
theorem d_Nd_executeNext_10 : decode b_Nd_executeNext 10 = .ok (.aload_n 0, 1) := by decide +kernel
theorem d_Nd_executeNext_11 : decode b_Nd_executeNext 11 = .ok (.iload_n 2, 1) := by decide +kernel
theorem d_Nd_executeNext_12 : decode b_Nd_executeNext 12 = .ok (.invokevirtual 66, 3) := by decide +kernel
theorem d_Nd_executeNext_15 : decode b_Nd_executeNext 15 = .ok (.ifCond .ne 4, 3) := by decide +kernel
theorem d_Nd_executeNext_18 : decode b_Nd_executeNext 18 = .ok (.return_, 1) := by decide +kernel
theorem d_Nd_executeNext_19 : decode b_Nd_executeNext 19 = .ok (.aload_n 0, 1) := by decide +kernel
theorem d_Nd_executeNext_20 : decode b_Nd_executeNext 20 = .ok (.getfield 36, 3) := by decide +kernel
theorem d_Nd_executeNext_23 : decode b_Nd_executeNext 23 = .ok (.iload_n 2, 1) := by decide +kernel
theorem d_Nd_executeNext_24 : decode b_Nd_executeNext 24 = .ok (.iaload, 1) := by decide +kernel
theorem d_Nd_executeNext_25 : decode b_Nd_executeNext 25 = .ok (.istore_n 3, 1) := by decide +kernel
theorem d_Nd_executeNext_26 : decode b_Nd_executeNext 26 = .ok (.aload_n 0, 1) := by decide +kernel
theorem d_Nd_executeNext_27 : decode b_Nd_executeNext 27 = .ok (.getfield 36, 3) := by decide +kernel
theorem d_Nd_executeNext_30 : decode b_Nd_executeNext 30 = .ok (.iload_n 2, 1) := by decide +kernel
theorem d_Nd_executeNext_31 : decode b_Nd_executeNext 31 = .ok (.iconst (-1), 1) := by decide +kernel
theorem d_Nd_executeNext_32 : decode b_Nd_executeNext 32 = .ok (.iastore, 1) := by decide +kernel
theorem d_Nd_executeNext_33 : decode b_Nd_executeNext 33 = .ok (.aload_n 0, 1) := by decide +kernel
theorem d_Nd_executeNext_34 : decode b_Nd_executeNext 34 = .ok (.getfield 18, 3) := by decide +kernel
theorem d_Nd_executeNext_37 : decode b_Nd_executeNext 37 = .ok (.getfield 118, 3) := by decide +kernel
theorem d_Nd_executeNext_40 : decode b_Nd_executeNext 40 = .ok (.istore 4, 2) := by decide +kernel
theorem d_Nd_executeNext_42 : decode b_Nd_executeNext 42 = .ok (.aload_n 0, 1) := by decide +kernel
theorem d_Nd_executeNext_43 : decode b_Nd_executeNext 43 = .ok (.getfield 18, 3) := by decide +kernel
theorem d_Nd_executeNext_46 : decode b_Nd_executeNext 46 = .ok (.iload_n 3, 1) := by decide +kernel
theorem d_Nd_executeNext_47 : decode b_Nd_executeNext 47 = .ok (.aload_n 1, 1) := by decide +kernel
theorem d_Nd_executeNext_48 : decode b_Nd_executeNext 48 = .ok (.invokevirtual 127, 3) := by decide +kernel
theorem d_Nd_executeNext_51 : decode b_Nd_executeNext 51 = .ok (.aload_n 0, 1) := by decide +kernel
theorem d_Nd_executeNext_52 : decode b_Nd_executeNext 52 = .ok (.getfield 18, 3) := by decide +kernel
theorem d_Nd_executeNext_55 : decode b_Nd_executeNext 55 = .ok (.getfield 118, 3) := by decide +kernel
theorem d_Nd_executeNext_58 : decode b_Nd_executeNext 58 = .ok (.iload 4, 2) := by decide +kernel
theorem d_Nd_executeNext_60 : decode b_Nd_executeNext 60 = .ok (.if_icmp .eq 7, 3) := by decide +kernel
theorem d_Nd_executeNext_63 : decode b_Nd_executeNext 63 = .ok (.aload_n 0, 1) := by decide +kernel
theorem d_Nd_executeNext_64 : decode b_Nd_executeNext 64 = .ok (.invokevirtual 115, 3) := by decide +kernel
theorem d_Nd_executeNext_67 : decode b_Nd_executeNext 67 = .ok (.return_, 1) := by decide +kernel
theorem d_Nd_goOn_0 : decode b_Nd_goOn 0 = .ok (.iconst 0, 1) := by decide +kernel
theorem d_Nd_goOn_1 : decode b_Nd_goOn 1 = .ok (.istore_n 2, 1) := by decide +kernel
theorem d_Nd_goOn_2 : decode b_Nd_goOn 2 = .ok (.iload_n 2, 1) := by decide +kernel
theorem d_Nd_goOn_3 : decode b_Nd_goOn 3 = .ok (.bipush 8, 2) := by decide +kernel
theorem d_Nd_goOn_5 : decode b_Nd_goOn 5 = .ok (.if_icmp .ge 14, 3) := by decide +kernel
theorem d_Nd_goOn_8 : decode b_Nd_goOn 8 = .ok (.aload_n 0, 1) := by decide +kernel
theorem d_Nd_goOn_9 : decode b_Nd_goOn 9 = .ok (.aload_n 1, 1) := by decide +kernel
theorem d_Nd_goOn_10 : decode b_Nd_goOn 10 = .ok (.invokevirtual 121, 3) := by decide +kernel
theorem d_Nd_goOn_13 : decode b_Nd_goOn 13 = .ok (.iinc 2 1, 3) := by decide +kernel
theorem d_Nd_goOn_16 : decode b_Nd_goOn 16 = .ok (.goto (-14), 3) := by decide +kernel
theorem d_Nd_goOn_19 : decode b_Nd_goOn 19 = .ok (.aload_n 0, 1) := by decide +kernel
theorem d_Nd_goOn_20 : decode b_Nd_goOn 20 = .ok (.aload_n 0, 1) := by decide +kernel
theorem d_Nd_goOn_21 : decode b_Nd_goOn 21 = .ok (.getfield 46, 3) := by decide +kernel
theorem d_Nd_goOn_24 : decode b_Nd_goOn 24 = .ok (.getfield 100, 3) := by decide +kernel
theorem d_Nd_goOn_27 : decode b_Nd_goOn 27 = .ok (.invokevirtual 66, 3) := by decide +kernel
theorem d_Nd_goOn_30 : decode b_Nd_goOn 30 = .ok (.ifCond .ne 20, 3) := by decide +kernel
theorem d_Nd_goOn_33 : decode b_Nd_goOn 33 = .ok (.aload_n 0, 1) := by decide +kernel
theorem d_Nd_goOn_34 : decode b_Nd_goOn 34 = .ok (.getfield 46, 3) := by decide +kernel
theorem d_Nd_goOn_37 : decode b_Nd_goOn 37 = .ok (.getfield 100, 3) := by decide +kernel
theorem d_Nd_goOn_40 : decode b_Nd_goOn 40 = .ok (.aload_n 0, 1) := by decide +kernel
theorem d_Nd_goOn_41 : decode b_Nd_goOn 41 = .ok (.getfield 18, 3) := by decide +kernel
theorem d_Nd_goOn_44 : decode b_Nd_goOn 44 = .ok (.getfield 63, 3) := by decide +kernel
theorem d_Nd_goOn_47 : decode b_Nd_goOn 47 = .ok (.if_icmp .gt 10, 3) := by decide +kernel
theorem d_Nd_goOn_50 : decode b_Nd_goOn 50 = .ok (.aload_n 0, 1) := by decide +kernel
theorem d_Nd_goOn_51 : decode b_Nd_goOn 51 = .ok (.getfield 46, 3) := by decide +kernel
theorem d_Nd_goOn_54 : decode b_Nd_goOn 54 = .ok (.invokevirtual 124, 3) := by decide +kernel
theorem d_Nd_goOn_57 : decode b_Nd_goOn 57 = .ok (.return_, 1) := by decide +kernel
theorem d_Nd_countVoter_0 : decode b_Nd_countVoter 0 = .ok (.aload_n 0, 1) := by decide +kernel
theorem d_Nd_countVoter_1 : decode b_Nd_countVoter 1 = .ok (.getfield 46, 3) := by decide +kernel
theorem d_Nd_countVoter_4 : decode b_Nd_countVoter 4 = .ok (.dup, 1) := by decide +kernel
theorem d_Nd_countVoter_5 : decode b_Nd_countVoter 5 = .ok (.getfield 94, 3) := by decide +kernel
theorem d_Nd_countVoter_8 : decode b_Nd_countVoter 8 = .ok (.iconst 1, 1) := by decide +kernel
theorem d_Nd_countVoter_9 : decode b_Nd_countVoter 9 = .ok (.iload_n 1, 1) := by decide +kernel
theorem d_Nd_countVoter_10 : decode b_Nd_countVoter 10 = .ok (.ishl, 1) := by decide +kernel
theorem d_Nd_countVoter_11 : decode b_Nd_countVoter 11 = .ok (.ior, 1) := by decide +kernel
theorem d_Nd_countVoter_12 : decode b_Nd_countVoter 12 = .ok (.putfield 94, 3) := by decide +kernel
theorem d_Nd_countVoter_15 : decode b_Nd_countVoter 15 = .ok (.aload_n 0, 1) := by decide +kernel
theorem d_Nd_countVoter_16 : decode b_Nd_countVoter 16 = .ok (.getfield 18, 3) := by decide +kernel
theorem d_Nd_countVoter_19 : decode b_Nd_countVoter 19 = .ok (.aload_n 0, 1) := by decide +kernel
theorem d_Nd_countVoter_20 : decode b_Nd_countVoter 20 = .ok (.getfield 46, 3) := by decide +kernel
theorem d_Nd_countVoter_23 : decode b_Nd_countVoter 23 = .ok (.getfield 94, 3) := by decide +kernel
theorem d_Nd_countVoter_26 : decode b_Nd_countVoter 26 = .ok (.invokevirtual 97, 3) := by decide +kernel
theorem d_Nd_countVoter_29 : decode b_Nd_countVoter 29 = .ok (.ifCond .eq 27, 3) := by decide +kernel
theorem d_Nd_countVoter_32 : decode b_Nd_countVoter 32 = .ok (.aload_n 0, 1) := by decide +kernel
theorem d_Nd_countVoter_33 : decode b_Nd_countVoter 33 = .ok (.getfield 36, 3) := by decide +kernel
theorem d_Nd_countVoter_36 : decode b_Nd_countVoter 36 = .ok (.aload_n 0, 1) := by decide +kernel
theorem d_Nd_countVoter_37 : decode b_Nd_countVoter 37 = .ok (.getfield 46, 3) := by decide +kernel
theorem d_Nd_countVoter_40 : decode b_Nd_countVoter 40 = .ok (.getfield 100, 3) := by decide +kernel
theorem d_Nd_countVoter_43 : decode b_Nd_countVoter 43 = .ok (.aload_n 0, 1) := by decide +kernel
theorem d_Nd_countVoter_44 : decode b_Nd_countVoter 44 = .ok (.getfield 46, 3) := by decide +kernel
theorem d_Nd_countVoter_47 : decode b_Nd_countVoter 47 = .ok (.getfield 82, 3) := by decide +kernel
theorem d_Nd_countVoter_50 : decode b_Nd_countVoter 50 = .ok (.iastore, 1) := by decide +kernel
theorem d_Nd_countVoter_51 : decode b_Nd_countVoter 51 = .ok (.aload_n 0, 1) := by decide +kernel
theorem d_Nd_countVoter_52 : decode b_Nd_countVoter 52 = .ok (.aload_n 2, 1) := by decide +kernel
theorem d_Nd_countVoter_53 : decode b_Nd_countVoter 53 = .ok (.invokevirtual 103, 3) := by decide +kernel
theorem d_Nd_countVoter_56 : decode b_Nd_countVoter 56 = .ok (.return_, 1) := by decide +kernel
theorem d_Nd_install_0 : decode b_Nd_install 0 = .ok (.aload_n 1, 1) := by decide +kernel
theorem d_Nd_install_1 : decode b_Nd_install 1 = .ok (.aload_n 0, 1) := by decide +kernel
theorem d_Nd_install_2 : decode b_Nd_install 2 = .ok (.getfield 18, 3) := by decide +kernel
theorem d_Nd_install_5 : decode b_Nd_install 5 = .ok (.invokevirtual 107, 3) := by decide +kernel
theorem d_Nd_install_8 : decode b_Nd_install 8 = .ok (.ifCond .ne 5, 3) := by decide +kernel
theorem d_Nd_install_11 : decode b_Nd_install 11 = .ok (.iconst 0, 1) := by decide +kernel
theorem d_Nd_install_12 : decode b_Nd_install 12 = .ok (.ireturn, 1) := by decide +kernel
theorem d_Nd_install_13 : decode b_Nd_install 13 = .ok (.aload_n 0, 1) := by decide +kernel
theorem d_Nd_install_14 : decode b_Nd_install 14 = .ok (.getfield 18, 3) := by decide +kernel
theorem d_Nd_install_17 : decode b_Nd_install 17 = .ok (.aload_n 1, 1) := by decide +kernel
theorem d_Nd_install_18 : decode b_Nd_install 18 = .ok (.invokevirtual 111, 3) := by decide +kernel
theorem d_Nd_install_21 : decode b_Nd_install 21 = .ok (.aload_n 0, 1) := by decide +kernel
theorem d_Nd_install_22 : decode b_Nd_install 22 = .ok (.invokevirtual 115, 3) := by decide +kernel
theorem d_Nd_install_25 : decode b_Nd_install 25 = .ok (.iconst 1, 1) := by decide +kernel
theorem d_Nd_install_26 : decode b_Nd_install 26 = .ok (.ireturn, 1) := by decide +kernel
theorem d_Nd_learnFrom_0 : decode b_Nd_learnFrom 0 = .ok (.aload_n 1, 1) := by decide +kernel
theorem d_Nd_learnFrom_1 : decode b_Nd_learnFrom 1 = .ok (.getfield 18, 3) := by decide +kernel
theorem d_Nd_learnFrom_4 : decode b_Nd_learnFrom 4 = .ok (.getfield 118, 3) := by decide +kernel
theorem d_Nd_learnFrom_7 : decode b_Nd_learnFrom 7 = .ok (.aload_n 0, 1) := by decide +kernel
theorem d_Nd_learnFrom_8 : decode b_Nd_learnFrom 8 = .ok (.getfield 18, 3) := by decide +kernel
theorem d_Nd_learnFrom_11 : decode b_Nd_learnFrom 11 = .ok (.getfield 118, 3) := by decide +kernel
theorem d_Nd_learnFrom_14 : decode b_Nd_learnFrom 14 = .ok (.if_icmp .eq 5, 3) := by decide +kernel
theorem d_Nd_learnFrom_17 : decode b_Nd_learnFrom 17 = .ok (.iconst 0, 1) := by decide +kernel
theorem d_Nd_learnFrom_18 : decode b_Nd_learnFrom 18 = .ok (.ireturn, 1) := by decide +kernel
theorem d_Nd_learnFrom_19 : decode b_Nd_learnFrom 19 = .ok (.iconst 0, 1) := by decide +kernel
theorem d_Nd_learnFrom_20 : decode b_Nd_learnFrom 20 = .ok (.istore_n 2, 1) := by decide +kernel
theorem d_Nd_learnFrom_21 : decode b_Nd_learnFrom 21 = .ok (.iconst 1, 1) := by decide +kernel
theorem d_Nd_learnFrom_22 : decode b_Nd_learnFrom 22 = .ok (.istore_n 3, 1) := by decide +kernel
theorem d_Nd_learnFrom_23 : decode b_Nd_learnFrom 23 = .ok (.iload_n 3, 1) := by decide +kernel
theorem d_Nd_learnFrom_24 : decode b_Nd_learnFrom 24 = .ok (.bipush 8, 2) := by decide +kernel
theorem d_Nd_learnFrom_26 : decode b_Nd_learnFrom 26 = .ok (.if_icmp .gt 50, 3) := by decide +kernel
theorem d_Nd_learnFrom_29 : decode b_Nd_learnFrom 29 = .ok (.iload_n 3, 1) := by decide +kernel
theorem d_Nd_learnFrom_30 : decode b_Nd_learnFrom 30 = .ok (.aload_n 0, 1) := by decide +kernel
theorem d_Nd_learnFrom_31 : decode b_Nd_learnFrom 31 = .ok (.getfield 18, 3) := by decide +kernel
theorem d_Nd_learnFrom_34 : decode b_Nd_learnFrom 34 = .ok (.getfield 63, 3) := by decide +kernel
theorem d_Nd_learnFrom_37 : decode b_Nd_learnFrom 37 = .ok (.if_icmp .le 33, 3) := by decide +kernel
theorem d_Nd_learnFrom_40 : decode b_Nd_learnFrom 40 = .ok (.aload_n 1, 1) := by decide +kernel
theorem d_Nd_learnFrom_41 : decode b_Nd_learnFrom 41 = .ok (.iload_n 3, 1) := by decide +kernel
theorem d_Nd_learnFrom_42 : decode b_Nd_learnFrom 42 = .ok (.invokevirtual 66, 3) := by decide +kernel
theorem d_Nd_learnFrom_45 : decode b_Nd_learnFrom 45 = .ok (.ifCond .eq 25, 3) := by decide +kernel
theorem d_Nd_learnFrom_48 : decode b_Nd_learnFrom 48 = .ok (.aload_n 0, 1) := by decide +kernel
theorem d_Nd_learnFrom_49 : decode b_Nd_learnFrom 49 = .ok (.iload_n 3, 1) := by decide +kernel
theorem d_Nd_learnFrom_50 : decode b_Nd_learnFrom 50 = .ok (.invokevirtual 66, 3) := by decide +kernel
theorem d_Nd_learnFrom_53 : decode b_Nd_learnFrom 53 = .ok (.ifCond .ne 17, 3) := by decide +kernel
theorem d_Nd_learnFrom_56 : decode b_Nd_learnFrom 56 = .ok (.aload_n 0, 1) := by decide +kernel
theorem d_Nd_learnFrom_57 : decode b_Nd_learnFrom 57 = .ok (.getfield 36, 3) := by decide +kernel
theorem d_Nd_learnFrom_60 : decode b_Nd_learnFrom 60 = .ok (.iload_n 3, 1) := by decide +kernel
theorem d_Nd_learnFrom_61 : decode b_Nd_learnFrom 61 = .ok (.aload_n 1, 1) := by decide +kernel
theorem d_Nd_learnFrom_62 : decode b_Nd_learnFrom 62 = .ok (.getfield 36, 3) := by decide +kernel
theorem d_Nd_learnFrom_65 : decode b_Nd_learnFrom 65 = .ok (.iload_n 3, 1) := by decide +kernel
theorem d_Nd_learnFrom_66 : decode b_Nd_learnFrom 66 = .ok (.iaload, 1) := by decide +kernel
theorem d_Nd_learnFrom_67 : decode b_Nd_learnFrom 67 = .ok (.iastore, 1) := by decide +kernel
theorem d_Nd_learnFrom_68 : decode b_Nd_learnFrom 68 = .ok (.iconst 1, 1) := by decide +kernel
theorem d_Nd_learnFrom_69 : decode b_Nd_learnFrom 69 = .ok (.istore_n 2, 1) := by decide +kernel
theorem d_Nd_learnFrom_70 : decode b_Nd_learnFrom 70 = .ok (.iinc 3 1, 3) := by decide +kernel
theorem d_Nd_learnFrom_73 : decode b_Nd_learnFrom 73 = .ok (.goto (-50), 3) := by decide +kernel
theorem d_Nd_learnFrom_76 : decode b_Nd_learnFrom 76 = .ok (.iload_n 2, 1) := by decide +kernel
theorem d_Nd_learnFrom_77 : decode b_Nd_learnFrom 77 = .ok (.ireturn, 1) := by decide +kernel
def wp_Nd_executeNext (z1 : MndT) (z2 : MbkT) (post : MndT → MbkT → Prop) : Prop := (∀ v1 : Int32, v1 = ((mst_executed (mnd_state z1)) + (1 : Int32)) → (wp_Nd_isKnownAt z1 v1 (fun (r2 : Int32) (u3 : MndT) => ((r2 = (0 : Int32) → (post u3 z2)) ∧ (¬ r2 = (0 : Int32) → (vp_in v1 9 ∧ (∀ v5 : Int32, v5 = ((mnd_knownCommands u3) (v1).toNatClampNeg) → (vp_in v1 9 ∧ (∀ v6 : Int32, v6 = (mst_configuration (mnd_state u3)) → (wp_St_execute (mnd_state u3) z2 v5 (fun (u8 : MstT) (u9 : MbkT) => (((mst_configuration u8) = v6 → (post (mnd_s_state (mnd_s_knownCommands u3 (upd (mnd_knownCommands u3) (v1).toNatClampNeg (-1 : Int32))) u8) u9)) ∧ (¬ (mst_configuration u8) = v6 → (wp_Nd_leaveList (mnd_s_state (mnd_s_knownCommands u3 (upd (mnd_knownCommands u3) (v1).toNatClampNeg (-1 : Int32))) u8) (fun (u12 : MndT) => (post u12 u9))))))))))))))))
abbrev rm_Nd_executeNext : Room := { frames := 3, cells := 0, slots := 0, locals := 67 }
def wp_Nd_goOn_L2 (K2 : Int32 → MndT → MbkT → Prop) : Nat → Int32 → MndT → MbkT → Prop
  | 0, _, _, _ => False
  | n2 + 1, y2, z1, z2 => (((8 : Int32) ≤ y2 → K2 y2 z1 z2) ∧ (¬ (8 : Int32) ≤ y2 → (wp_Nd_executeNext z1 z2 (fun (u3 : MndT) (u4 : MbkT) => (∀ v5 : Int32, v5 = (y2 + (1 : Int32)) → wp_Nd_goOn_L2 K2 n2 v5 u3 u4)))))
def wp_Nd_goOn (z1 : MndT) (z2 : MbkT) (post : MndT → MbkT → Prop) : Prop := (∃ n2 : Nat, wp_Nd_goOn_L2 (fun (y2 : Int32) (z1 : MndT) (z2 : MbkT) => (wp_Nd_isKnownAt z1 (mat_slot (mnd_attempt z1)) (fun (r6 : Int32) (u7 : MndT) => ((r6 = (0 : Int32) → (((mst_executed (mnd_state u7)) < (mat_slot (mnd_attempt u7)) → (post u7 z2)) ∧ (¬ (mst_executed (mnd_state u7)) < (mat_slot (mnd_attempt u7)) → (wp_At_end (mnd_attempt u7) (fun (u13 : MatT) => (post (mnd_s_attempt u7 u13) z2)))))) ∧ (¬ r6 = (0 : Int32) → (wp_At_end (mnd_attempt u7) (fun (u10 : MatT) => (post (mnd_s_attempt u7 u10) z2)))))))) n2 (0 : Int32) z1 z2)
abbrev rm_Nd_goOn : Room := { frames := 4, cells := 0, slots := 0, locals := 91 }
def wp_Nd_countVoter (z1 : MndT) (z2 : MbkT) (x1 : Int32) (post : MndT → MbkT → Prop) : Prop := (wp_St_isMajority (mnd_state z1) ((mat_voters (mnd_attempt z1)) ||| ((1 : Int32) <<< (x1 &&& 31))) (fun (r1 : Int32) (u2 : MstT) => ((r1 = (0 : Int32) → (post (mnd_s_state (mnd_s_attempt_voters z1 ((mat_voters (mnd_attempt z1)) ||| ((1 : Int32) <<< (x1 &&& 31)))) u2) z2)) ∧ (¬ r1 = (0 : Int32) → (vp_in (mat_slot (mnd_attempt (mnd_s_attempt_voters z1 ((mat_voters (mnd_attempt z1)) ||| ((1 : Int32) <<< (x1 &&& 31)))))) 9 ∧ (wp_Nd_goOn (mnd_s_knownCommands (mnd_s_state (mnd_s_attempt_voters z1 ((mat_voters (mnd_attempt z1)) ||| ((1 : Int32) <<< (x1 &&& 31)))) u2) (upd (mnd_knownCommands (mnd_s_attempt_voters z1 ((mat_voters (mnd_attempt z1)) ||| ((1 : Int32) <<< (x1 &&& 31))))) ((mat_slot (mnd_attempt (mnd_s_attempt_voters z1 ((mat_voters (mnd_attempt z1)) ||| ((1 : Int32) <<< (x1 &&& 31))))))).toNatClampNeg (mat_command (mnd_attempt (mnd_s_attempt_voters z1 ((mat_voters (mnd_attempt z1)) ||| ((1 : Int32) <<< (x1 &&& 31)))))))) z2 (fun (u5 : MndT) (u6 : MbkT) => (post u5 u6))))))))
abbrev rm_Nd_countVoter : Room := { frames := 5, cells := 0, slots := 0, locals := 113 }
def wp_Nd_install (z1 : MndT) (z2 : MstT) (post : Int32 → MndT → MstT → Prop) : Prop := (wp_St_isLaterThan z2 (mnd_state z1) (fun (r1 : Int32) (u2 : MstT) (u3 : MstT) => ((r1 = (0 : Int32) → (post (0 : Int32) (mnd_s_state z1 u3) u2)) ∧ (¬ r1 = (0 : Int32) → (wp_St_copyFrom u3 u2 (fun (u6 : MstT) (u7 : MstT) => (wp_Nd_leaveList (mnd_s_state (mnd_s_state z1 u3) u6) (fun (u9 : MndT) => (post (1 : Int32) u9 u7)))))))))
abbrev rm_Nd_install : Room := { frames := 3, cells := 0, slots := 0, locals := 62 }
def wp_Nd_learnFrom_L23 (K23 : Int32 → Int32 → MndT → MndT → Prop) : Nat → Int32 → Int32 → MndT → MndT → Prop
  | 0, _, _, _, _ => False
  | n23 + 1, y2, y3, z1, z2 => (((8 : Int32) < y3 → K23 y2 y3 z1 z2) ∧ (¬ (8 : Int32) < y3 → ((y3 ≤ (mst_executed (mnd_state z1)) → (∀ v4 : Int32, v4 = (y3 + (1 : Int32)) → wp_Nd_learnFrom_L23 K23 n23 y2 v4 z1 z2)) ∧ (¬ y3 ≤ (mst_executed (mnd_state z1)) → (wp_Nd_isKnownAt z2 y3 (fun (r5 : Int32) (u6 : MndT) => ((r5 = (0 : Int32) → (∀ v8 : Int32, v8 = (y3 + (1 : Int32)) → wp_Nd_learnFrom_L23 K23 n23 y2 v8 z1 u6)) ∧ (¬ r5 = (0 : Int32) → (wp_Nd_isKnownAt z1 y3 (fun (r9 : Int32) (u10 : MndT) => ((r9 = (0 : Int32) → (vp_in y3 9 ∧ (vp_in y3 9 ∧ (∀ v13 : Int32, v13 = (y3 + (1 : Int32)) → wp_Nd_learnFrom_L23 K23 n23 (1 : Int32) v13 (mnd_s_knownCommands u10 (upd (mnd_knownCommands u10) (y3).toNatClampNeg ((mnd_knownCommands u6) (y3).toNatClampNeg))) u6)))) ∧ (¬ r9 = (0 : Int32) → (∀ v12 : Int32, v12 = (y3 + (1 : Int32)) → wp_Nd_learnFrom_L23 K23 n23 y2 v12 u10 u6)))))))))))))
def wp_Nd_learnFrom (z1 : MndT) (z2 : MndT) (post : Int32 → MndT → MndT → Prop) : Prop := (((mst_configuration (mnd_state z2)) = (mst_configuration (mnd_state z1)) → (∃ n23 : Nat, wp_Nd_learnFrom_L23 (fun (y2 : Int32) (y3 : Int32) (z1 : MndT) (z2 : MndT) => (narrow .boolean (.int y2) = .int y2 ∧ post y2 z1 z2)) n23 (0 : Int32) (1 : Int32) z1 z2)) ∧ (¬ (mst_configuration (mnd_state z2)) = (mst_configuration (mnd_state z1)) → (post (0 : Int32) z1 z2)))
abbrev rm_Nd_learnFrom : Room := { frames := 2, cells := 0, slots := 0, locals := 41 }
set_option maxHeartbeats 4000000 in
set_option maxRecDepth 100000 in
theorem c_Nd_executeNext (l : Launch) (D : va_G) (cI cN cZ : ClassId) (a1 : Nat → Nat) (a2 : Nat → Nat) (z1 : MndT) (z2 : MbkT) (post : MndT → MbkT → Prop) (hw : wp_Nd_executeNext z1 z2 post) : km_V l y_Nd_executeNext (.code y_Nd_executeNext b_Nd_executeNext 5 none :: kmW) rm_Nd_executeNext D kmC (kmT cI cN cZ) kmF kmM [.ref (a1 0), .ref (a2 0)] (mndW cI cN cZ a1 z1 ++ mbkW cI cN cZ a2 z2) (fun (u : MndT × MbkT) => post u.1 u.2) (fun (u : MndT × MbkT) => (mndW cI cN cZ a1 u.1 ++ mbkW cI cN cZ a2 u.2)) 0 0 := by
  refine km_startV (cc := b_Nd_executeNext) (maxL := 5) (ret := none) (by decide) rfl (Nat.le_of_ble_eq_true rfl) ?_
  intro p e s m below meth c A ls hE hA hK hP hD hS hl
  obtain ⟨hx, hb, hr, hml, hown, hts0, hlk, hnm⟩ := id hE
  have hts : ∀ w ∈ kmW, w.before ([.ref (a1 0), .ref (a2 0)] : List Value).toArray s = true := fun w h => hts0 w (List.mem_cons_of_mem _ h)
  have hP : va_P D kmC (mndW cI cN cZ a1 z1 ++ mbkW cI cN cZ a2 z2) s.heap := hP
  have hl : lv_has ls 5 [(0, .ref (a1 0)), (1, .ref (a2 0))] := hl
  unfold wp_Nd_executeNext at hw
  refine lv_aload_n hx hb d_Nd_executeNext_0 rfl (lv_at hl 0 rfl) ?_
  refine va_get (D := D) (ci := 2) (v := .ref (a1 1)) (C := R_Nd) (T := F_Nd) (N := 9) hx hb hts iw_Nd hown hK.1 hP 0 rfl rfl 2 (by decide) (hts _ mw_123) (fun _ h => h) rfl d_Nd_executeNext_1 ?_
  refine va_getN (D := D) (ci := 4) (v := .int (mst_executed (mnd_state z1))) (C := R_St) (T := F_St) (N := 6) hx hb hts iw_St hown hK.1 hP 1 rfl rfl 2 (by decide) (km_nF hK 3 rfl) (fun _ h => h) rfl d_Nd_executeNext_4 ?_
  refine lv_iconst (v := (1 : Int32)) hx hb d_Nd_executeNext_7 (by decide) ?_
  refine lv_iadd hx hb d_Nd_executeNext_8 ?_
  refine lv_topi (fun v1 ev1 => ?_)
  have hw := hw v1 ev1
  refine lv_istore_n (lv' := [(2, .int v1), (0, .ref (a1 0)), (1, .ref (a2 0))]) hx hb d_Nd_executeNext_9 rfl hl (by decide) rfl (fun ls hl => ?_)
  refine lv_aload_n hx hb d_Nd_executeNext_10 rfl (lv_at hl 1 rfl) ?_
  refine lv_iload_n hx hb d_Nd_executeNext_11 rfl (lv_at hl 0 rfl) ?_
  refine km_ci (wr := [(a2 0, .inr (3, [.ref (a2 1), .ref (a2 2), .ref (a2 3), .int (mbk_count z2)])), (a2 1, .inl (cI, 31, .inl (mbk_kinds z2))), (a2 2, .inl (cI, 31, .inl (mbk_keys z2))), (a2 3, .inl (cI, 31, .inl (mbk_numbers z2)))]) (km_rV (n := 1) hE kmG (c_Nd_isKnownAt l D cI cN cZ a1 z1 v1 _ hw) mw_255 mw_252 mw_254 mp_6 mw_2 (by decide) ⟨rfl, rfl, ⟨by decide, by decide⟩, by decide, by decide⟩ hK (km_cut hP [0, 1, 2, 3, 4, 5, 6, 7, 8, 9] rfl) (hD.sub [0, 1, 2, 3, 4, 5, 6, 7, 8, 9] (by decide) rfl) (ci := 2) rfl hP (q0 := 0) rfl rfl hl.1 rfl (Nat.le_of_ble_eq_true rfl) d_Nd_executeNext_12) hP hD hS hA [0, 1, 2, 3, 4, 5, 6, 7, 8, 9] [10, 11, 12, 13] rfl rfl (by decide) (by decide) (fun r2 u3 H locs hw hP hD hS => ?_)
  have hP := hP.sub (ws' := (mndW cI cN cZ a1 u3 ++ mbkW cI cN cZ a2 z2)) [4, 5, 6, 7, 8, 9, 10, 11, 12, 13, 0, 1, 2, 3] rfl
  have hD := hD.sub (ws' := (mndW cI cN cZ a1 u3 ++ mbkW cI cN cZ a2 z2)) [4, 5, 6, 7, 8, 9, 10, 11, 12, 13, 0, 1, 2, 3] (by decide) rfl
  refine lv_if_ne (tgt := 19) hx hb d_Nd_executeNext_15 (by first | rfl | decide) (fun h4 => ?_) (fun h4 => ?_)
  · have hw := hw.2 h4
    refine lv_aload_n hx hb d_Nd_executeNext_19 rfl (lv_at hl 1 rfl) ?_
    refine va_get (D := D) (ci := 2) (v := .ref (a1 8)) (C := R_Nd) (T := F_Nd) (N := 9) hx hb hts iw_Nd hown hK.1 hP 0 rfl rfl 6 (by decide) (hts _ mw_131) (fun _ h => h) rfl d_Nd_executeNext_20 ?_
    refine lv_iload_n hx hb d_Nd_executeNext_23 rfl (lv_at hl 0 rfl) ?_
    obtain ⟨hin, hw⟩ := hw
    refine va_iald (f := (mnd_knownCommands u3)) hx hb hK.1 hP 8 0 rfl rfl hin d_Nd_executeNext_24 ?_
    refine lv_topi (fun v5 ev5 => ?_)
    have hw := hw v5 ev5
    refine lv_istore_n (lv' := [(3, .int v5), (2, .int v1), (0, .ref (a1 0)), (1, .ref (a2 0))]) hx hb d_Nd_executeNext_25 rfl hl (by decide) rfl (fun ls hl => ?_)
    refine lv_aload_n hx hb d_Nd_executeNext_26 rfl (lv_at hl 2 rfl) ?_
    refine va_get (D := D) (ci := 2) (v := .ref (a1 8)) (C := R_Nd) (T := F_Nd) (N := 9) hx hb hts iw_Nd hown hK.1 hP 0 rfl rfl 6 (by decide) (hts _ mw_131) (fun _ h => h) rfl d_Nd_executeNext_27 ?_
    refine lv_iload_n hx hb d_Nd_executeNext_30 rfl (lv_at hl 1 rfl) ?_
    refine lv_iconst (v := (-1 : Int32)) hx hb d_Nd_executeNext_31 (by decide) ?_
    obtain ⟨hin, hw⟩ := hw
    refine va_iast (f := (mnd_knownCommands u3)) hx hb hK.1 hP hD hS 8 0 rfl rfl hin d_Nd_executeNext_32 (fun H locs hP hD hS => ?_)
    have hP : va_P D kmC (mndW cI cN cZ a1 (mnd_s_knownCommands u3 (upd (mnd_knownCommands u3) (v1).toNatClampNeg (-1 : Int32))) ++ mbkW cI cN cZ a2 z2) H := hP
    have hD : va_D A (mndW cI cN cZ a1 (mnd_s_knownCommands u3 (upd (mnd_knownCommands u3) (v1).toNatClampNeg (-1 : Int32))) ++ mbkW cI cN cZ a2 z2) := hD
    refine lv_aload_n hx hb d_Nd_executeNext_33 rfl (lv_at hl 2 rfl) ?_
    refine va_get (D := D) (ci := 2) (v := .ref (a1 1)) (C := R_Nd) (T := F_Nd) (N := 9) hx hb hts iw_Nd hown hK.1 hP 0 rfl rfl 2 (by decide) (hts _ mw_123) (fun _ h => h) rfl d_Nd_executeNext_34 ?_
    refine va_getN (D := D) (ci := 4) (v := .int (mst_configuration (mnd_state u3))) (C := R_St) (T := F_St) (N := 6) hx hb hts iw_St hown hK.1 hP 1 rfl rfl 0 (by decide) (km_nF hK 1 rfl) (fun _ h => h) rfl d_Nd_executeNext_37 ?_
    refine lv_topi (fun v6 ev6 => ?_)
    have hw := hw v6 ev6
    refine lv_istore (lv' := [(4, .int v6), (3, .int v5), (2, .int v1), (0, .ref (a1 0)), (1, .ref (a2 0))]) hx hb d_Nd_executeNext_40 hl (by decide) rfl (fun ls hl => ?_)
    refine lv_aload_n hx hb d_Nd_executeNext_42 rfl (lv_at hl 3 rfl) ?_
    refine va_get (D := D) (ci := 2) (v := .ref (a1 1)) (C := R_Nd) (T := F_Nd) (N := 9) hx hb hts iw_Nd hown hK.1 hP 0 rfl rfl 2 (by decide) (hts _ mw_123) (fun _ h => h) rfl d_Nd_executeNext_43 ?_
    refine lv_iload_n hx hb d_Nd_executeNext_46 rfl (lv_at hl 1 rfl) ?_
    refine lv_aload_n hx hb d_Nd_executeNext_47 rfl (lv_at hl 4 rfl) ?_
    refine km_cv (wr := [(a1 0, .inr (2, [.int (mnd_number (mnd_s_knownCommands u3 (upd (mnd_knownCommands u3) (v1).toNatClampNeg (-1 : Int32)))), .int (mnd_up (mnd_s_knownCommands u3 (upd (mnd_knownCommands u3) (v1).toNatClampNeg (-1 : Int32)))), .ref (a1 1), .ref (a1 4), .int (mnd_last (mnd_s_knownCommands u3 (upd (mnd_knownCommands u3) (v1).toNatClampNeg (-1 : Int32)))), .int (mnd_retired (mnd_s_knownCommands u3 (upd (mnd_knownCommands u3) (v1).toNatClampNeg (-1 : Int32)))), .ref (a1 8), .int (mnd_pending (mnd_s_knownCommands u3 (upd (mnd_knownCommands u3) (v1).toNatClampNeg (-1 : Int32)))), .ref (a1 9)])), (a1 4, .inr (1, [.ref (a1 5), .ref (a1 6), .ref (a1 7)])), (a1 5, .inl (cI, 40, .inl (mlg_promisedBallots (mnd_ledger (mnd_s_knownCommands u3 (upd (mnd_knownCommands u3) (v1).toNatClampNeg (-1 : Int32))))))), (a1 6, .inl (cI, 40, .inl (mlg_voteBallots (mnd_ledger (mnd_s_knownCommands u3 (upd (mnd_knownCommands u3) (v1).toNatClampNeg (-1 : Int32))))))), (a1 7, .inl (cI, 40, .inl (mlg_voteCommands (mnd_ledger (mnd_s_knownCommands u3 (upd (mnd_knownCommands u3) (v1).toNatClampNeg (-1 : Int32))))))), (a1 8, .inl (cI, 9, .inl (mnd_knownCommands (mnd_s_knownCommands u3 (upd (mnd_knownCommands u3) (v1).toNatClampNeg (-1 : Int32)))))), (a1 9, .inr (0, [.int (mat_slot (mnd_attempt (mnd_s_knownCommands u3 (upd (mnd_knownCommands u3) (v1).toNatClampNeg (-1 : Int32))))), .int (mat_ballot (mnd_attempt (mnd_s_knownCommands u3 (upd (mnd_knownCommands u3) (v1).toNatClampNeg (-1 : Int32))))), .int (mat_promisers (mnd_attempt (mnd_s_knownCommands u3 (upd (mnd_knownCommands u3) (v1).toNatClampNeg (-1 : Int32))))), .int (mat_voters (mnd_attempt (mnd_s_knownCommands u3 (upd (mnd_knownCommands u3) (v1).toNatClampNeg (-1 : Int32))))), .int (mat_bestBallot (mnd_attempt (mnd_s_knownCommands u3 (upd (mnd_knownCommands u3) (v1).toNatClampNeg (-1 : Int32))))), .int (mat_bestCommand (mnd_attempt (mnd_s_knownCommands u3 (upd (mnd_knownCommands u3) (v1).toNatClampNeg (-1 : Int32))))), .int (mat_command (mnd_attempt (mnd_s_knownCommands u3 (upd (mnd_knownCommands u3) (v1).toNatClampNeg (-1 : Int32)))))]))]) (km_rVN (n := 2) hE kmG (c_St_execute l D cI cN cZ (fun j => a1 (j + 1)) a2 (mnd_state u3) z2 v5 _ hw) mw_349 (km_nM hK 29 rfl) mw_348 mp_23 mw_3 (by decide) ⟨rfl, rfl, ⟨by decide, by decide⟩, by decide, by decide⟩ hK (km_cut hP [1, 2, 3, 10, 11, 12, 13] rfl) (hD.sub [1, 2, 3, 10, 11, 12, 13] (by decide) rfl) (ci := 4) rfl hP (q0 := 1) rfl rfl hl.1 rfl (Nat.le_of_ble_eq_true rfl) d_Nd_executeNext_48) hP hD hS hA [1, 2, 3, 10, 11, 12, 13] [0, 4, 5, 6, 7, 8, 9] rfl rfl (by decide) (by decide) (fun ⟨u8, u9⟩ H locs hw hP hD hS => ?_)
    have hP := hP.sub (ws' := (mndW cI cN cZ a1 (mnd_s_state (mnd_s_knownCommands u3 (upd (mnd_knownCommands u3) (v1).toNatClampNeg (-1 : Int32))) u8) ++ mbkW cI cN cZ a2 u9)) [0, 7, 8, 9, 1, 2, 3, 4, 5, 6, 10, 11, 12, 13] rfl
    have hD := hD.sub (ws' := (mndW cI cN cZ a1 (mnd_s_state (mnd_s_knownCommands u3 (upd (mnd_knownCommands u3) (v1).toNatClampNeg (-1 : Int32))) u8) ++ mbkW cI cN cZ a2 u9)) [0, 7, 8, 9, 1, 2, 3, 4, 5, 6, 10, 11, 12, 13] (by decide) rfl
    refine lv_aload_n hx hb d_Nd_executeNext_51 rfl (lv_at hl 3 rfl) ?_
    refine va_get (D := D) (ci := 2) (v := .ref (a1 1)) (C := R_Nd) (T := F_Nd) (N := 9) hx hb hts iw_Nd hown hK.1 hP 0 rfl rfl 2 (by decide) (hts _ mw_123) (fun _ h => h) rfl d_Nd_executeNext_52 ?_
    refine va_getN (D := D) (ci := 4) (v := .int (mst_configuration u8)) (C := R_St) (T := F_St) (N := 6) hx hb hts iw_St hown hK.1 hP 1 rfl rfl 0 (by decide) (km_nF hK 1 rfl) (fun _ h => h) rfl d_Nd_executeNext_55 ?_
    refine lv_iload hx hb d_Nd_executeNext_58 (lv_at hl 0 rfl) ?_
    refine lv_icmp_eq (tgt := 67) hx hb d_Nd_executeNext_60 (by first | rfl | decide) (fun h10 => ?_) (fun h10 => ?_)
    · have hw := hw.1 h10
      exact W.vret hx hb hr (fun t ht hW => ⟨⟨((mnd_s_state (mnd_s_knownCommands u3 (upd (mnd_knownCommands u3) (v1).toNatClampNeg (-1 : Int32))) u8), u9), rfl, hw, by rw [ht]; exact hP, hD⟩, hS.F ht⟩) hS.2.2 d_Nd_executeNext_67
    · have hw := hw.2 h10
      refine lv_aload_n hx hb d_Nd_executeNext_63 rfl (lv_at hl 3 rfl) ?_
      refine km_cv (wr := [(a2 0, .inr (3, [.ref (a2 1), .ref (a2 2), .ref (a2 3), .int (mbk_count u9)])), (a2 1, .inl (cI, 31, .inl (mbk_kinds u9))), (a2 2, .inl (cI, 31, .inl (mbk_keys u9))), (a2 3, .inl (cI, 31, .inl (mbk_numbers u9)))]) (km_rV (n := 0) hE kmG (c_Nd_leaveList l D cI cN cZ a1 (mnd_s_state (mnd_s_knownCommands u3 (upd (mnd_knownCommands u3) (v1).toNatClampNeg (-1 : Int32))) u8) _ hw) mw_301 mw_298 mw_300 mp_14 mw_2 (by decide) ⟨rfl, rfl, ⟨by decide, by decide⟩, by decide, by decide⟩ hK (km_cut hP [0, 1, 2, 3, 4, 5, 6, 7, 8, 9] rfl) (hD.sub [0, 1, 2, 3, 4, 5, 6, 7, 8, 9] (by decide) rfl) (ci := 2) rfl hP (q0 := 0) rfl rfl hl.1 rfl (Nat.le_of_ble_eq_true rfl) d_Nd_executeNext_64) hP hD hS hA [0, 1, 2, 3, 4, 5, 6, 7, 8, 9] [10, 11, 12, 13] rfl rfl (by decide) (by decide) (fun u12 H locs hw hP hD hS => ?_)
      have hP := hP.sub (ws' := (mndW cI cN cZ a1 u12 ++ mbkW cI cN cZ a2 u9)) [4, 5, 6, 7, 8, 9, 10, 11, 12, 13, 0, 1, 2, 3] rfl
      have hD := hD.sub (ws' := (mndW cI cN cZ a1 u12 ++ mbkW cI cN cZ a2 u9)) [4, 5, 6, 7, 8, 9, 10, 11, 12, 13, 0, 1, 2, 3] (by decide) rfl
      exact W.vret hx hb hr (fun t ht hW => ⟨⟨(u12, u9), rfl, hw, by rw [ht]; exact hP, hD⟩, hS.F ht⟩) hS.2.2 d_Nd_executeNext_67
  · have hw := hw.1 h4
    exact W.vret hx hb hr (fun t ht hW => ⟨⟨(u3, z2), rfl, hw, by rw [ht]; exact hP, hD⟩, hS.F ht⟩) hS.2.2 d_Nd_executeNext_18
set_option maxHeartbeats 4000000 in
set_option maxRecDepth 100000 in
theorem c_Nd_goOn (l : Launch) (D : va_G) (cI cN cZ : ClassId) (a1 : Nat → Nat) (a2 : Nat → Nat) (z1 : MndT) (z2 : MbkT) (post : MndT → MbkT → Prop) (hw : wp_Nd_goOn z1 z2 post) : km_V l y_Nd_goOn (.code y_Nd_goOn b_Nd_goOn 3 none :: kmW) rm_Nd_goOn D kmC (kmT cI cN cZ) kmF kmM [.ref (a1 0), .ref (a2 0)] (mndW cI cN cZ a1 z1 ++ mbkW cI cN cZ a2 z2) (fun (u : MndT × MbkT) => post u.1 u.2) (fun (u : MndT × MbkT) => (mndW cI cN cZ a1 u.1 ++ mbkW cI cN cZ a2 u.2)) 0 0 := by
  refine km_startV (cc := b_Nd_goOn) (maxL := 3) (ret := none) (by decide) rfl (Nat.le_of_ble_eq_true rfl) ?_
  intro p e s m below meth c A ls hE hA hK hP hD hS hl
  obtain ⟨hx, hb, hr, hml, hown, hts0, hlk, hnm⟩ := id hE
  have hts : ∀ w ∈ kmW, w.before ([.ref (a1 0), .ref (a2 0)] : List Value).toArray s = true := fun w h => hts0 w (List.mem_cons_of_mem _ h)
  have hP : va_P D kmC (mndW cI cN cZ a1 z1 ++ mbkW cI cN cZ a2 z2) s.heap := hP
  have hl : lv_has ls 3 [(0, .ref (a1 0)), (1, .ref (a2 0))] := hl
  unfold wp_Nd_goOn at hw
  refine lv_iconst (v := (0 : Int32)) hx hb d_Nd_goOn_0 (by decide) ?_
  refine lv_istore_n (lv' := [(2, .int (0 : Int32)), (0, .ref (a1 0)), (1, .ref (a2 0))]) hx hb d_Nd_goOn_1 rfl hl (by decide) rfl (fun ls hl => ?_)
  have key2 : ∀ (K2 : Int32 → MndT → MbkT → Prop) (hk2 : ∀ (y2 : Int32) (z1 : MndT) (z2 : MbkT) (ls : Array Slot) (H : Heap) (locs : List Loc), K2 y2 z1 z2 → lv_has ls 3 [(2, .int y2), (0, .ref (a1 0)), (1, .ref (a2 0))] → va_P D kmC (mndW cI cN cZ a1 z1 ++ mbkW cI cN cZ a2 z2) H → va_D A (mndW cI cN cZ a1 z1 ++ mbkW cI cN cZ a2 z2) → va_S A s.heap H locs → W p l e rm_Nd_goOn s m ([.ref (a1 0), .ref (a2 0)] : List Value).toArray below meth c H locs 0 0 (MQ below (va_Qv (fun (u : MndT × MbkT) => post u.1 u.2) (km_B D kmC A (fun (u : MndT × MbkT) => (mndW cI cN cZ a1 u.1 ++ mbkW cI cN cZ a2 u.2))) A) ([.ref (a1 0), .ref (a2 0)] : List Value).toArray s 0 0 A) (F0 m 19 ls [])) (n2 : Nat), ∀ (y2 : Int32) (z1 : MndT) (z2 : MbkT) (ls : Array Slot) (H : Heap) (locs : List Loc), wp_Nd_goOn_L2 K2 n2 y2 z1 z2 → lv_has ls 3 [(2, .int y2), (0, .ref (a1 0)), (1, .ref (a2 0))] → va_P D kmC (mndW cI cN cZ a1 z1 ++ mbkW cI cN cZ a2 z2) H → va_D A (mndW cI cN cZ a1 z1 ++ mbkW cI cN cZ a2 z2) → va_S A s.heap H locs → W p l e rm_Nd_goOn s m ([.ref (a1 0), .ref (a2 0)] : List Value).toArray below meth c H locs 0 0 (MQ below (va_Qv (fun (u : MndT × MbkT) => post u.1 u.2) (km_B D kmC A (fun (u : MndT × MbkT) => (mndW cI cN cZ a1 u.1 ++ mbkW cI cN cZ a2 u.2))) A) ([.ref (a1 0), .ref (a2 0)] : List Value).toArray s 0 0 A) (F0 m 2 ls []) := by
    intro K2 hk2 n2
    induction n2 with
    | zero => intro y2 z1 z2 ls H locs hw; exact hw.elim
    | succ n2 ih2 =>
      intro y2 z1 z2 ls H locs hw hl hP hD hS
      refine lv_iload_n hx hb d_Nd_goOn_2 rfl (lv_at hl 0 rfl) ?_
      refine lv_bipush (v := (8 : Int32)) hx hb d_Nd_goOn_3 (by decide) ?_
      refine lv_icmp_ge (tgt := 19) hx hb d_Nd_goOn_5 (by first | rfl | decide) (fun h1 => ?_) (fun h1 => ?_)
      · have hw := hw.1 h1
        exact hk2 y2 z1 z2 ls H locs hw (lv_sub hl [0, 1, 2] rfl) hP hD hS
      · have hw := hw.2 h1
        refine lv_aload_n hx hb d_Nd_goOn_8 rfl (lv_at hl 1 rfl) ?_
        refine lv_aload_n hx hb d_Nd_goOn_9 rfl (lv_at hl 2 rfl) ?_
        refine km_cv (wr := []) (km_rV (n := 1) hE kmG (c_Nd_executeNext l D cI cN cZ a1 a2 z1 z2 _ hw) mw_345 mw_342 mw_344 mp_22 mw_2 (by decide) ⟨rfl, rfl, ⟨by decide, by decide⟩, by decide, by decide⟩ hK (km_cut hP [0, 1, 2, 3, 4, 5, 6, 7, 8, 9, 10, 11, 12, 13] rfl) (hD.sub [0, 1, 2, 3, 4, 5, 6, 7, 8, 9, 10, 11, 12, 13] (by decide) rfl) (ci := 2) rfl hP (q0 := 0) rfl rfl hl.1 rfl (Nat.le_of_ble_eq_true rfl) d_Nd_goOn_10) hP hD hS hA [0, 1, 2, 3, 4, 5, 6, 7, 8, 9, 10, 11, 12, 13] [] rfl rfl (by decide) (by decide) (fun ⟨u3, u4⟩ H locs hw hP hD hS => ?_)
        have hP : va_P D kmC (mndW cI cN cZ a1 u3 ++ mbkW cI cN cZ a2 u4) H := hP
        have hD : va_D A (mndW cI cN cZ a1 u3 ++ mbkW cI cN cZ a2 u4) := hD
        obtain ⟨v5, ev5⟩ : ∃ z : Int32, z = (y2 + (1 : Int32)) := ⟨_, rfl⟩
        have hw := hw v5 ev5
        refine lv_iinc (v := v5) (lv' := [(2, .int v5), (0, .ref (a1 0)), (1, .ref (a2 0))]) hx hb d_Nd_goOn_13 hl (k := 0) rfl ev5.symm (by decide) rfl (fun ls hl => ?_)
        refine lv_goto (tgt := 2) hx hb d_Nd_goOn_16 (by first | rfl | decide) ?_
        exact ih2 v5 u3 u4 ls H locs hw (lv_sub hl [0, 1, 2] rfl) hP hD hS
  obtain ⟨n2, hw⟩ := hw
  refine key2 _ (fun y2 z1 z2 ls H locs hw hl hP hD hS => ?_) n2 (0 : Int32) z1 z2 ls s.heap [] hw (lv_sub hl [0, 1, 2] rfl) hP hD hS
  refine lv_aload_n hx hb d_Nd_goOn_19 rfl (lv_at hl 1 rfl) ?_
  refine lv_aload_n hx hb d_Nd_goOn_20 rfl (lv_at hl 1 rfl) ?_
  refine va_get (D := D) (ci := 2) (v := .ref (a1 9)) (C := R_Nd) (T := F_Nd) (N := 9) hx hb hts iw_Nd hown hK.1 hP 0 rfl rfl 8 (by decide) (hts _ mw_135) (fun _ h => h) rfl d_Nd_goOn_21 ?_
  refine va_getN (D := D) (ci := 0) (v := .int (mat_slot (mnd_attempt z1))) (C := R_At) (T := F_At) (N := 7) hx hb hts iw_At hown hK.1 hP 9 rfl rfl 0 (by decide) (km_nF hK 11 rfl) (fun _ h => h) rfl d_Nd_goOn_24 ?_
  refine km_ci (wr := [(a2 0, .inr (3, [.ref (a2 1), .ref (a2 2), .ref (a2 3), .int (mbk_count z2)])), (a2 1, .inl (cI, 31, .inl (mbk_kinds z2))), (a2 2, .inl (cI, 31, .inl (mbk_keys z2))), (a2 3, .inl (cI, 31, .inl (mbk_numbers z2)))]) (km_rV (n := 1) hE kmG (c_Nd_isKnownAt l D cI cN cZ a1 z1 (mat_slot (mnd_attempt z1)) _ hw) mw_255 mw_252 mw_254 mp_6 mw_2 (by decide) ⟨rfl, rfl, ⟨by decide, by decide⟩, by decide, by decide⟩ hK (km_cut hP [0, 1, 2, 3, 4, 5, 6, 7, 8, 9] rfl) (hD.sub [0, 1, 2, 3, 4, 5, 6, 7, 8, 9] (by decide) rfl) (ci := 2) rfl hP (q0 := 0) rfl rfl hl.1 rfl (Nat.le_of_ble_eq_true rfl) d_Nd_goOn_27) hP hD hS hA [0, 1, 2, 3, 4, 5, 6, 7, 8, 9] [10, 11, 12, 13] rfl rfl (by decide) (by decide) (fun r6 u7 H locs hw hP hD hS => ?_)
  have hP := hP.sub (ws' := (mndW cI cN cZ a1 u7 ++ mbkW cI cN cZ a2 z2)) [4, 5, 6, 7, 8, 9, 10, 11, 12, 13, 0, 1, 2, 3] rfl
  have hD := hD.sub (ws' := (mndW cI cN cZ a1 u7 ++ mbkW cI cN cZ a2 z2)) [4, 5, 6, 7, 8, 9, 10, 11, 12, 13, 0, 1, 2, 3] (by decide) rfl
  refine lv_if_ne (tgt := 50) hx hb d_Nd_goOn_30 (by first | rfl | decide) (fun h8 => ?_) (fun h8 => ?_)
  · have hw := hw.2 h8
    refine lv_aload_n hx hb d_Nd_goOn_50 rfl (lv_at hl 1 rfl) ?_
    refine va_get (D := D) (ci := 2) (v := .ref (a1 9)) (C := R_Nd) (T := F_Nd) (N := 9) hx hb hts iw_Nd hown hK.1 hP 0 rfl rfl 8 (by decide) (hts _ mw_135) (fun _ h => h) rfl d_Nd_goOn_51 ?_
    refine km_cv (wr := [(a1 0, .inr (2, [.int (mnd_number u7), .int (mnd_up u7), .ref (a1 1), .ref (a1 4), .int (mnd_last u7), .int (mnd_retired u7), .ref (a1 8), .int (mnd_pending u7), .ref (a1 9)])), (a1 1, .inr (4, [.int (mst_configuration (mnd_state u7)), .int (mst_membership (mnd_state u7)), .int (mst_executed (mnd_state u7)), .ref (a1 2), .int (mst_doneBits (mnd_state u7)), .ref (a1 3)])), (a1 2, .inl (cI, 4, .inl (mst_values (mnd_state u7)))), (a1 3, .inl (cI, 31, .inl (mst_answers (mnd_state u7)))), (a1 4, .inr (1, [.ref (a1 5), .ref (a1 6), .ref (a1 7)])), (a1 5, .inl (cI, 40, .inl (mlg_promisedBallots (mnd_ledger u7)))), (a1 6, .inl (cI, 40, .inl (mlg_voteBallots (mnd_ledger u7)))), (a1 7, .inl (cI, 40, .inl (mlg_voteCommands (mnd_ledger u7)))), (a1 8, .inl (cI, 9, .inl (mnd_knownCommands u7))), (a2 0, .inr (3, [.ref (a2 1), .ref (a2 2), .ref (a2 3), .int (mbk_count z2)])), (a2 1, .inl (cI, 31, .inl (mbk_kinds z2))), (a2 2, .inl (cI, 31, .inl (mbk_keys z2))), (a2 3, .inl (cI, 31, .inl (mbk_numbers z2)))]) (km_rVN (n := 0) hE kmG (c_At_end l D cI cN cZ (fun j => a1 (j + 9)) (mnd_attempt u7) _ hw) mw_305 (km_nM hK 20 rfl) mw_304 mp_15 mw_5 (by decide) ⟨rfl, rfl, ⟨by decide, by decide⟩, by decide, by decide⟩ hK (km_cut hP [9] rfl) (hD.sub [9] (by decide) rfl) (ci := 0) rfl hP (q0 := 9) rfl rfl hl.1 rfl (Nat.le_of_ble_eq_true rfl) d_Nd_goOn_54) hP hD hS hA [9] [0, 1, 2, 3, 4, 5, 6, 7, 8, 10, 11, 12, 13] rfl rfl (by decide) (by decide) (fun u10 H locs hw hP hD hS => ?_)
    have hP := hP.sub (ws' := (mndW cI cN cZ a1 (mnd_s_attempt u7 u10) ++ mbkW cI cN cZ a2 z2)) [0, 1, 2, 3, 4, 5, 6, 7, 8, 13, 9, 10, 11, 12] rfl
    have hD := hD.sub (ws' := (mndW cI cN cZ a1 (mnd_s_attempt u7 u10) ++ mbkW cI cN cZ a2 z2)) [0, 1, 2, 3, 4, 5, 6, 7, 8, 13, 9, 10, 11, 12] (by decide) rfl
    exact W.vret hx hb hr (fun t ht hW => ⟨⟨((mnd_s_attempt u7 u10), z2), rfl, hw, by rw [ht]; exact hP, hD⟩, hS.F ht⟩) hS.2.2 d_Nd_goOn_57
  · have hw := hw.1 h8
    refine lv_aload_n hx hb d_Nd_goOn_33 rfl (lv_at hl 1 rfl) ?_
    refine va_get (D := D) (ci := 2) (v := .ref (a1 9)) (C := R_Nd) (T := F_Nd) (N := 9) hx hb hts iw_Nd hown hK.1 hP 0 rfl rfl 8 (by decide) (hts _ mw_135) (fun _ h => h) rfl d_Nd_goOn_34 ?_
    refine va_getN (D := D) (ci := 0) (v := .int (mat_slot (mnd_attempt u7))) (C := R_At) (T := F_At) (N := 7) hx hb hts iw_At hown hK.1 hP 9 rfl rfl 0 (by decide) (km_nF hK 11 rfl) (fun _ h => h) rfl d_Nd_goOn_37 ?_
    refine lv_aload_n hx hb d_Nd_goOn_40 rfl (lv_at hl 1 rfl) ?_
    refine va_get (D := D) (ci := 2) (v := .ref (a1 1)) (C := R_Nd) (T := F_Nd) (N := 9) hx hb hts iw_Nd hown hK.1 hP 0 rfl rfl 2 (by decide) (hts _ mw_123) (fun _ h => h) rfl d_Nd_goOn_41 ?_
    refine va_getN (D := D) (ci := 4) (v := .int (mst_executed (mnd_state u7))) (C := R_St) (T := F_St) (N := 6) hx hb hts iw_St hown hK.1 hP 1 rfl rfl 2 (by decide) (km_nF hK 3 rfl) (fun _ h => h) rfl d_Nd_goOn_44 ?_
    refine lv_icmp_gt (tgt := 57) hx hb d_Nd_goOn_47 (by first | rfl | decide) (fun h11 => ?_) (fun h11 => ?_)
    · have hw := hw.1 h11
      exact W.vret hx hb hr (fun t ht hW => ⟨⟨(u7, z2), rfl, hw, by rw [ht]; exact hP, hD⟩, hS.F ht⟩) hS.2.2 d_Nd_goOn_57
    · have hw := hw.2 h11
      refine lv_aload_n hx hb d_Nd_goOn_50 rfl (lv_at hl 1 rfl) ?_
      refine va_get (D := D) (ci := 2) (v := .ref (a1 9)) (C := R_Nd) (T := F_Nd) (N := 9) hx hb hts iw_Nd hown hK.1 hP 0 rfl rfl 8 (by decide) (hts _ mw_135) (fun _ h => h) rfl d_Nd_goOn_51 ?_
      refine km_cv (wr := [(a1 0, .inr (2, [.int (mnd_number u7), .int (mnd_up u7), .ref (a1 1), .ref (a1 4), .int (mnd_last u7), .int (mnd_retired u7), .ref (a1 8), .int (mnd_pending u7), .ref (a1 9)])), (a1 1, .inr (4, [.int (mst_configuration (mnd_state u7)), .int (mst_membership (mnd_state u7)), .int (mst_executed (mnd_state u7)), .ref (a1 2), .int (mst_doneBits (mnd_state u7)), .ref (a1 3)])), (a1 2, .inl (cI, 4, .inl (mst_values (mnd_state u7)))), (a1 3, .inl (cI, 31, .inl (mst_answers (mnd_state u7)))), (a1 4, .inr (1, [.ref (a1 5), .ref (a1 6), .ref (a1 7)])), (a1 5, .inl (cI, 40, .inl (mlg_promisedBallots (mnd_ledger u7)))), (a1 6, .inl (cI, 40, .inl (mlg_voteBallots (mnd_ledger u7)))), (a1 7, .inl (cI, 40, .inl (mlg_voteCommands (mnd_ledger u7)))), (a1 8, .inl (cI, 9, .inl (mnd_knownCommands u7))), (a2 0, .inr (3, [.ref (a2 1), .ref (a2 2), .ref (a2 3), .int (mbk_count z2)])), (a2 1, .inl (cI, 31, .inl (mbk_kinds z2))), (a2 2, .inl (cI, 31, .inl (mbk_keys z2))), (a2 3, .inl (cI, 31, .inl (mbk_numbers z2)))]) (km_rVN (n := 0) hE kmG (c_At_end l D cI cN cZ (fun j => a1 (j + 9)) (mnd_attempt u7) _ hw) mw_305 (km_nM hK 20 rfl) mw_304 mp_15 mw_5 (by decide) ⟨rfl, rfl, ⟨by decide, by decide⟩, by decide, by decide⟩ hK (km_cut hP [9] rfl) (hD.sub [9] (by decide) rfl) (ci := 0) rfl hP (q0 := 9) rfl rfl hl.1 rfl (Nat.le_of_ble_eq_true rfl) d_Nd_goOn_54) hP hD hS hA [9] [0, 1, 2, 3, 4, 5, 6, 7, 8, 10, 11, 12, 13] rfl rfl (by decide) (by decide) (fun u13 H locs hw hP hD hS => ?_)
      have hP := hP.sub (ws' := (mndW cI cN cZ a1 (mnd_s_attempt u7 u13) ++ mbkW cI cN cZ a2 z2)) [0, 1, 2, 3, 4, 5, 6, 7, 8, 13, 9, 10, 11, 12] rfl
      have hD := hD.sub (ws' := (mndW cI cN cZ a1 (mnd_s_attempt u7 u13) ++ mbkW cI cN cZ a2 z2)) [0, 1, 2, 3, 4, 5, 6, 7, 8, 13, 9, 10, 11, 12] (by decide) rfl
      exact W.vret hx hb hr (fun t ht hW => ⟨⟨((mnd_s_attempt u7 u13), z2), rfl, hw, by rw [ht]; exact hP, hD⟩, hS.F ht⟩) hS.2.2 d_Nd_goOn_57
set_option maxHeartbeats 4000000 in
set_option maxRecDepth 100000 in
theorem c_Nd_countVoter (l : Launch) (D : va_G) (cI cN cZ : ClassId) (a1 : Nat → Nat) (a2 : Nat → Nat) (z1 : MndT) (z2 : MbkT) (x1 : Int32) (post : MndT → MbkT → Prop) (hw : wp_Nd_countVoter z1 z2 x1 post) : km_V l y_Nd_countVoter (.code y_Nd_countVoter b_Nd_countVoter 3 none :: kmW) rm_Nd_countVoter D kmC (kmT cI cN cZ) kmF kmM [.ref (a1 0), .int x1, .ref (a2 0)] (mndW cI cN cZ a1 z1 ++ mbkW cI cN cZ a2 z2) (fun (u : MndT × MbkT) => post u.1 u.2) (fun (u : MndT × MbkT) => (mndW cI cN cZ a1 u.1 ++ mbkW cI cN cZ a2 u.2)) 0 0 := by
  refine km_startV (cc := b_Nd_countVoter) (maxL := 3) (ret := none) (by decide) rfl (Nat.le_of_ble_eq_true rfl) ?_
  intro p e s m below meth c A ls hE hA hK hP hD hS hl
  obtain ⟨hx, hb, hr, hml, hown, hts0, hlk, hnm⟩ := id hE
  have hts : ∀ w ∈ kmW, w.before ([.ref (a1 0), .int x1, .ref (a2 0)] : List Value).toArray s = true := fun w h => hts0 w (List.mem_cons_of_mem _ h)
  have hP : va_P D kmC (mndW cI cN cZ a1 z1 ++ mbkW cI cN cZ a2 z2) s.heap := hP
  have hl : lv_has ls 3 [(0, .ref (a1 0)), (1, .int x1), (2, .ref (a2 0))] := hl
  unfold wp_Nd_countVoter at hw
  refine lv_aload_n hx hb d_Nd_countVoter_0 rfl (lv_at hl 0 rfl) ?_
  refine va_get (D := D) (ci := 2) (v := .ref (a1 9)) (C := R_Nd) (T := F_Nd) (N := 9) hx hb hts iw_Nd hown hK.1 hP 0 rfl rfl 8 (by decide) (hts _ mw_135) (fun _ h => h) rfl d_Nd_countVoter_1 ?_
  refine lv_dup hx hb d_Nd_countVoter_4 rfl ?_
  refine va_getN (D := D) (ci := 0) (v := .int (mat_voters (mnd_attempt z1))) (C := R_At) (T := F_At) (N := 7) hx hb hts iw_At hown hK.1 hP 9 rfl rfl 3 (by decide) (km_nF hK 14 rfl) (fun _ h => h) rfl d_Nd_countVoter_5 ?_
  refine lv_iconst (v := (1 : Int32)) hx hb d_Nd_countVoter_8 (by decide) ?_
  refine lv_iload_n hx hb d_Nd_countVoter_9 rfl (lv_at hl 1 rfl) ?_
  refine lv_ishl hx hb d_Nd_countVoter_10 ?_
  refine lv_ior hx hb d_Nd_countVoter_11 ?_
  refine va_putN (D := D) (ci := 0) (v := .int ((mat_voters (mnd_attempt z1)) ||| ((1 : Int32) <<< (x1 &&& 31)))) (ty := .int) (C := R_At) (T := F_At) (N := 7) hx hb hts iw_At t_At t_At_ok n_At hown hK.1 hP hD hS 9 rfl rfl 3 (by decide) (km_nF hK 14 rfl) (fun _ h => h) rfl (t_At_ok 3 (by decide)) rfl rfl (Nat.le_of_ble_eq_true rfl) d_Nd_countVoter_12 (fun H locs hP hD hS => ?_)
  have hP : va_P D kmC (mndW cI cN cZ a1 (mnd_s_attempt_voters z1 ((mat_voters (mnd_attempt z1)) ||| ((1 : Int32) <<< (x1 &&& 31)))) ++ mbkW cI cN cZ a2 z2) H := hP
  have hD : va_D A (mndW cI cN cZ a1 (mnd_s_attempt_voters z1 ((mat_voters (mnd_attempt z1)) ||| ((1 : Int32) <<< (x1 &&& 31)))) ++ mbkW cI cN cZ a2 z2) := hD
  refine lv_aload_n hx hb d_Nd_countVoter_15 rfl (lv_at hl 0 rfl) ?_
  refine va_get (D := D) (ci := 2) (v := .ref (a1 1)) (C := R_Nd) (T := F_Nd) (N := 9) hx hb hts iw_Nd hown hK.1 hP 0 rfl rfl 2 (by decide) (hts _ mw_123) (fun _ h => h) rfl d_Nd_countVoter_16 ?_
  refine lv_aload_n hx hb d_Nd_countVoter_19 rfl (lv_at hl 0 rfl) ?_
  refine va_get (D := D) (ci := 2) (v := .ref (a1 9)) (C := R_Nd) (T := F_Nd) (N := 9) hx hb hts iw_Nd hown hK.1 hP 0 rfl rfl 8 (by decide) (hts _ mw_135) (fun _ h => h) rfl d_Nd_countVoter_20 ?_
  refine va_getN (D := D) (ci := 0) (v := .int ((mat_voters (mnd_attempt z1)) ||| ((1 : Int32) <<< (x1 &&& 31)))) (C := R_At) (T := F_At) (N := 7) hx hb hts iw_At hown hK.1 hP 9 rfl rfl 3 (by decide) (km_nF hK 14 rfl) (fun _ h => h) rfl d_Nd_countVoter_23 ?_
  refine km_ci (wr := [(a1 0, .inr (2, [.int (mnd_number (mnd_s_attempt_voters z1 ((mat_voters (mnd_attempt z1)) ||| ((1 : Int32) <<< (x1 &&& 31))))), .int (mnd_up (mnd_s_attempt_voters z1 ((mat_voters (mnd_attempt z1)) ||| ((1 : Int32) <<< (x1 &&& 31))))), .ref (a1 1), .ref (a1 4), .int (mnd_last (mnd_s_attempt_voters z1 ((mat_voters (mnd_attempt z1)) ||| ((1 : Int32) <<< (x1 &&& 31))))), .int (mnd_retired (mnd_s_attempt_voters z1 ((mat_voters (mnd_attempt z1)) ||| ((1 : Int32) <<< (x1 &&& 31))))), .ref (a1 8), .int (mnd_pending (mnd_s_attempt_voters z1 ((mat_voters (mnd_attempt z1)) ||| ((1 : Int32) <<< (x1 &&& 31))))), .ref (a1 9)])), (a1 4, .inr (1, [.ref (a1 5), .ref (a1 6), .ref (a1 7)])), (a1 5, .inl (cI, 40, .inl (mlg_promisedBallots (mnd_ledger (mnd_s_attempt_voters z1 ((mat_voters (mnd_attempt z1)) ||| ((1 : Int32) <<< (x1 &&& 31)))))))), (a1 6, .inl (cI, 40, .inl (mlg_voteBallots (mnd_ledger (mnd_s_attempt_voters z1 ((mat_voters (mnd_attempt z1)) ||| ((1 : Int32) <<< (x1 &&& 31)))))))), (a1 7, .inl (cI, 40, .inl (mlg_voteCommands (mnd_ledger (mnd_s_attempt_voters z1 ((mat_voters (mnd_attempt z1)) ||| ((1 : Int32) <<< (x1 &&& 31)))))))), (a1 8, .inl (cI, 9, .inl (mnd_knownCommands (mnd_s_attempt_voters z1 ((mat_voters (mnd_attempt z1)) ||| ((1 : Int32) <<< (x1 &&& 31))))))), (a1 9, .inr (0, [.int (mat_slot (mnd_attempt (mnd_s_attempt_voters z1 ((mat_voters (mnd_attempt z1)) ||| ((1 : Int32) <<< (x1 &&& 31)))))), .int (mat_ballot (mnd_attempt (mnd_s_attempt_voters z1 ((mat_voters (mnd_attempt z1)) ||| ((1 : Int32) <<< (x1 &&& 31)))))), .int (mat_promisers (mnd_attempt (mnd_s_attempt_voters z1 ((mat_voters (mnd_attempt z1)) ||| ((1 : Int32) <<< (x1 &&& 31)))))), .int (mat_voters (mnd_attempt (mnd_s_attempt_voters z1 ((mat_voters (mnd_attempt z1)) ||| ((1 : Int32) <<< (x1 &&& 31)))))), .int (mat_bestBallot (mnd_attempt (mnd_s_attempt_voters z1 ((mat_voters (mnd_attempt z1)) ||| ((1 : Int32) <<< (x1 &&& 31)))))), .int (mat_bestCommand (mnd_attempt (mnd_s_attempt_voters z1 ((mat_voters (mnd_attempt z1)) ||| ((1 : Int32) <<< (x1 &&& 31)))))), .int (mat_command (mnd_attempt (mnd_s_attempt_voters z1 ((mat_voters (mnd_attempt z1)) ||| ((1 : Int32) <<< (x1 &&& 31))))))])), (a2 0, .inr (3, [.ref (a2 1), .ref (a2 2), .ref (a2 3), .int (mbk_count z2)])), (a2 1, .inl (cI, 31, .inl (mbk_kinds z2))), (a2 2, .inl (cI, 31, .inl (mbk_keys z2))), (a2 3, .inl (cI, 31, .inl (mbk_numbers z2)))]) (km_rVN (n := 1) hE kmG (c_St_isMajority l D cI cN cZ (fun j => a1 (j + 1)) (mnd_state z1) ((mat_voters (mnd_attempt z1)) ||| ((1 : Int32) <<< (x1 &&& 31))) _ hw) mw_322 (km_nM hK 28 rfl) mw_321 mp_17 mw_3 (by decide) ⟨rfl, rfl, ⟨by decide, by decide⟩, by decide, by decide⟩ hK (km_cut hP [1, 2, 3] rfl) (hD.sub [1, 2, 3] (by decide) rfl) (ci := 4) rfl hP (q0 := 1) rfl rfl hl.1 rfl (Nat.le_of_ble_eq_true rfl) d_Nd_countVoter_26) hP hD hS hA [1, 2, 3] [0, 4, 5, 6, 7, 8, 9, 10, 11, 12, 13] rfl rfl (by decide) (by decide) (fun r1 u2 H locs hw hP hD hS => ?_)
  have hP := hP.sub (ws' := (mndW cI cN cZ a1 (mnd_s_state (mnd_s_attempt_voters z1 ((mat_voters (mnd_attempt z1)) ||| ((1 : Int32) <<< (x1 &&& 31)))) u2) ++ mbkW cI cN cZ a2 z2)) [0, 11, 12, 13, 1, 2, 3, 4, 5, 6, 7, 8, 9, 10] rfl
  have hD := hD.sub (ws' := (mndW cI cN cZ a1 (mnd_s_state (mnd_s_attempt_voters z1 ((mat_voters (mnd_attempt z1)) ||| ((1 : Int32) <<< (x1 &&& 31)))) u2) ++ mbkW cI cN cZ a2 z2)) [0, 11, 12, 13, 1, 2, 3, 4, 5, 6, 7, 8, 9, 10] (by decide) rfl
  refine lv_if_eq (tgt := 56) hx hb d_Nd_countVoter_29 (by first | rfl | decide) (fun h3 => ?_) (fun h3 => ?_)
  · have hw := hw.1 h3
    exact W.vret hx hb hr (fun t ht hW => ⟨⟨((mnd_s_state (mnd_s_attempt_voters z1 ((mat_voters (mnd_attempt z1)) ||| ((1 : Int32) <<< (x1 &&& 31)))) u2), z2), rfl, hw, by rw [ht]; exact hP, hD⟩, hS.F ht⟩) hS.2.2 d_Nd_countVoter_56
  · have hw := hw.2 h3
    refine lv_aload_n hx hb d_Nd_countVoter_32 rfl (lv_at hl 0 rfl) ?_
    refine va_get (D := D) (ci := 2) (v := .ref (a1 8)) (C := R_Nd) (T := F_Nd) (N := 9) hx hb hts iw_Nd hown hK.1 hP 0 rfl rfl 6 (by decide) (hts _ mw_131) (fun _ h => h) rfl d_Nd_countVoter_33 ?_
    refine lv_aload_n hx hb d_Nd_countVoter_36 rfl (lv_at hl 0 rfl) ?_
    refine va_get (D := D) (ci := 2) (v := .ref (a1 9)) (C := R_Nd) (T := F_Nd) (N := 9) hx hb hts iw_Nd hown hK.1 hP 0 rfl rfl 8 (by decide) (hts _ mw_135) (fun _ h => h) rfl d_Nd_countVoter_37 ?_
    refine va_getN (D := D) (ci := 0) (v := .int (mat_slot (mnd_attempt (mnd_s_attempt_voters z1 ((mat_voters (mnd_attempt z1)) ||| ((1 : Int32) <<< (x1 &&& 31))))))) (C := R_At) (T := F_At) (N := 7) hx hb hts iw_At hown hK.1 hP 9 rfl rfl 0 (by decide) (km_nF hK 11 rfl) (fun _ h => h) rfl d_Nd_countVoter_40 ?_
    refine lv_aload_n hx hb d_Nd_countVoter_43 rfl (lv_at hl 0 rfl) ?_
    refine va_get (D := D) (ci := 2) (v := .ref (a1 9)) (C := R_Nd) (T := F_Nd) (N := 9) hx hb hts iw_Nd hown hK.1 hP 0 rfl rfl 8 (by decide) (hts _ mw_135) (fun _ h => h) rfl d_Nd_countVoter_44 ?_
    refine va_getN (D := D) (ci := 0) (v := .int (mat_command (mnd_attempt (mnd_s_attempt_voters z1 ((mat_voters (mnd_attempt z1)) ||| ((1 : Int32) <<< (x1 &&& 31))))))) (C := R_At) (T := F_At) (N := 7) hx hb hts iw_At hown hK.1 hP 9 rfl rfl 6 (by decide) (km_nF hK 18 rfl) (fun _ h => h) rfl d_Nd_countVoter_47 ?_
    obtain ⟨hin, hw⟩ := hw
    refine va_iast (f := (mnd_knownCommands (mnd_s_attempt_voters z1 ((mat_voters (mnd_attempt z1)) ||| ((1 : Int32) <<< (x1 &&& 31)))))) hx hb hK.1 hP hD hS 8 0 rfl rfl hin d_Nd_countVoter_50 (fun H locs hP hD hS => ?_)
    have hP : va_P D kmC (mndW cI cN cZ a1 (mnd_s_knownCommands (mnd_s_state (mnd_s_attempt_voters z1 ((mat_voters (mnd_attempt z1)) ||| ((1 : Int32) <<< (x1 &&& 31)))) u2) (upd (mnd_knownCommands (mnd_s_attempt_voters z1 ((mat_voters (mnd_attempt z1)) ||| ((1 : Int32) <<< (x1 &&& 31))))) ((mat_slot (mnd_attempt (mnd_s_attempt_voters z1 ((mat_voters (mnd_attempt z1)) ||| ((1 : Int32) <<< (x1 &&& 31))))))).toNatClampNeg (mat_command (mnd_attempt (mnd_s_attempt_voters z1 ((mat_voters (mnd_attempt z1)) ||| ((1 : Int32) <<< (x1 &&& 31)))))))) ++ mbkW cI cN cZ a2 z2) H := hP
    have hD : va_D A (mndW cI cN cZ a1 (mnd_s_knownCommands (mnd_s_state (mnd_s_attempt_voters z1 ((mat_voters (mnd_attempt z1)) ||| ((1 : Int32) <<< (x1 &&& 31)))) u2) (upd (mnd_knownCommands (mnd_s_attempt_voters z1 ((mat_voters (mnd_attempt z1)) ||| ((1 : Int32) <<< (x1 &&& 31))))) ((mat_slot (mnd_attempt (mnd_s_attempt_voters z1 ((mat_voters (mnd_attempt z1)) ||| ((1 : Int32) <<< (x1 &&& 31))))))).toNatClampNeg (mat_command (mnd_attempt (mnd_s_attempt_voters z1 ((mat_voters (mnd_attempt z1)) ||| ((1 : Int32) <<< (x1 &&& 31)))))))) ++ mbkW cI cN cZ a2 z2) := hD
    refine lv_aload_n hx hb d_Nd_countVoter_51 rfl (lv_at hl 0 rfl) ?_
    refine lv_aload_n hx hb d_Nd_countVoter_52 rfl (lv_at hl 2 rfl) ?_
    refine km_cv (wr := []) (km_rV (n := 1) hE kmG (c_Nd_goOn l D cI cN cZ a1 a2 (mnd_s_knownCommands (mnd_s_state (mnd_s_attempt_voters z1 ((mat_voters (mnd_attempt z1)) ||| ((1 : Int32) <<< (x1 &&& 31)))) u2) (upd (mnd_knownCommands (mnd_s_attempt_voters z1 ((mat_voters (mnd_attempt z1)) ||| ((1 : Int32) <<< (x1 &&& 31))))) ((mat_slot (mnd_attempt (mnd_s_attempt_voters z1 ((mat_voters (mnd_attempt z1)) ||| ((1 : Int32) <<< (x1 &&& 31))))))).toNatClampNeg (mat_command (mnd_attempt (mnd_s_attempt_voters z1 ((mat_voters (mnd_attempt z1)) ||| ((1 : Int32) <<< (x1 &&& 31)))))))) z2 _ hw) mw_341 mw_338 mw_340 mp_21 mw_2 (by decide) ⟨rfl, rfl, ⟨by decide, by decide⟩, by decide, by decide⟩ hK (km_cut hP [0, 1, 2, 3, 4, 5, 6, 7, 8, 9, 10, 11, 12, 13] rfl) (hD.sub [0, 1, 2, 3, 4, 5, 6, 7, 8, 9, 10, 11, 12, 13] (by decide) rfl) (ci := 2) rfl hP (q0 := 0) rfl rfl hl.1 rfl (Nat.le_of_ble_eq_true rfl) d_Nd_countVoter_53) hP hD hS hA [0, 1, 2, 3, 4, 5, 6, 7, 8, 9, 10, 11, 12, 13] [] rfl rfl (by decide) (by decide) (fun ⟨u5, u6⟩ H locs hw hP hD hS => ?_)
    have hP : va_P D kmC (mndW cI cN cZ a1 u5 ++ mbkW cI cN cZ a2 u6) H := hP
    have hD : va_D A (mndW cI cN cZ a1 u5 ++ mbkW cI cN cZ a2 u6) := hD
    exact W.vret hx hb hr (fun t ht hW => ⟨⟨(u5, u6), rfl, hw, by rw [ht]; exact hP, hD⟩, hS.F ht⟩) hS.2.2 d_Nd_countVoter_56
set_option maxHeartbeats 4000000 in
set_option maxRecDepth 100000 in
theorem c_Nd_install (l : Launch) (D : va_G) (cI cN cZ : ClassId) (a1 : Nat → Nat) (a2 : Nat → Nat) (z1 : MndT) (z2 : MstT) (post : Int32 → MndT → MstT → Prop) (hw : wp_Nd_install z1 z2 post) : km_I l y_Nd_install (.code y_Nd_install b_Nd_install 2 (some .boolean) :: kmW) rm_Nd_install D kmC (kmT cI cN cZ) kmF kmM [.ref (a1 0), .ref (a2 0)] (mndW cI cN cZ a1 z1 ++ mstW cI cN cZ a2 z2) (fun (r : Int32) (u : MndT × MstT) => post r u.1 u.2) (fun (u : MndT × MstT) => (mndW cI cN cZ a1 u.1 ++ mstW cI cN cZ a2 u.2)) 0 0 := by
  refine km_startI (cc := b_Nd_install) (maxL := 2) (ret := (some .boolean)) (by decide) rfl (Nat.le_of_ble_eq_true rfl) ?_
  intro p e s m below meth c A ls hE hA hK hP hD hS hl
  obtain ⟨hx, hb, hr, hml, hown, hts0, hlk, hnm⟩ := id hE
  have hts : ∀ w ∈ kmW, w.before ([.ref (a1 0), .ref (a2 0)] : List Value).toArray s = true := fun w h => hts0 w (List.mem_cons_of_mem _ h)
  have hP : va_P D kmC (mndW cI cN cZ a1 z1 ++ mstW cI cN cZ a2 z2) s.heap := hP
  have hl : lv_has ls 2 [(0, .ref (a1 0)), (1, .ref (a2 0))] := hl
  unfold wp_Nd_install at hw
  refine lv_aload_n hx hb d_Nd_install_0 rfl (lv_at hl 1 rfl) ?_
  refine lv_aload_n hx hb d_Nd_install_1 rfl (lv_at hl 0 rfl) ?_
  refine va_get (D := D) (ci := 2) (v := .ref (a1 1)) (C := R_Nd) (T := F_Nd) (N := 9) hx hb hts iw_Nd hown hK.1 hP 0 rfl rfl 2 (by decide) (hts _ mw_123) (fun _ h => h) rfl d_Nd_install_2 ?_
  refine km_ci (wr := [(a1 0, .inr (2, [.int (mnd_number z1), .int (mnd_up z1), .ref (a1 1), .ref (a1 4), .int (mnd_last z1), .int (mnd_retired z1), .ref (a1 8), .int (mnd_pending z1), .ref (a1 9)])), (a1 4, .inr (1, [.ref (a1 5), .ref (a1 6), .ref (a1 7)])), (a1 5, .inl (cI, 40, .inl (mlg_promisedBallots (mnd_ledger z1)))), (a1 6, .inl (cI, 40, .inl (mlg_voteBallots (mnd_ledger z1)))), (a1 7, .inl (cI, 40, .inl (mlg_voteCommands (mnd_ledger z1)))), (a1 8, .inl (cI, 9, .inl (mnd_knownCommands z1))), (a1 9, .inr (0, [.int (mat_slot (mnd_attempt z1)), .int (mat_ballot (mnd_attempt z1)), .int (mat_promisers (mnd_attempt z1)), .int (mat_voters (mnd_attempt z1)), .int (mat_bestBallot (mnd_attempt z1)), .int (mat_bestCommand (mnd_attempt z1)), .int (mat_command (mnd_attempt z1))]))]) (km_rVN (n := 1) hE kmG (c_St_isLaterThan l D cI cN cZ a2 (fun j => a1 (j + 1)) z2 (mnd_state z1) _ hw) mw_290 (km_nM hK 18 rfl) mw_289 mp_12 mw_3 (by decide) ⟨rfl, rfl, ⟨by decide, by decide⟩, by decide, by decide⟩ hK (km_cut hP [10, 11, 12, 1, 2, 3] rfl) (hD.sub [10, 11, 12, 1, 2, 3] (by decide) rfl) (ci := 4) rfl hP (q0 := 10) rfl rfl hl.1 rfl (Nat.le_of_ble_eq_true rfl) d_Nd_install_5) hP hD hS hA [10, 11, 12, 1, 2, 3] [0, 4, 5, 6, 7, 8, 9] rfl rfl (by decide) (by decide) (fun r1 ⟨u2, u3⟩ H locs hw hP hD hS => ?_)
  have hP := hP.sub (ws' := (mndW cI cN cZ a1 (mnd_s_state z1 u3) ++ mstW cI cN cZ a2 u2)) [0, 10, 11, 12, 1, 2, 3, 4, 5, 6, 7, 8, 9] rfl
  have hD := hD.sub (ws' := (mndW cI cN cZ a1 (mnd_s_state z1 u3) ++ mstW cI cN cZ a2 u2)) [0, 10, 11, 12, 1, 2, 3, 4, 5, 6, 7, 8, 9] (by decide) rfl
  refine lv_if_ne (tgt := 13) hx hb d_Nd_install_8 (by first | rfl | decide) (fun h4 => ?_) (fun h4 => ?_)
  · have hw := hw.2 h4
    refine lv_aload_n hx hb d_Nd_install_13 rfl (lv_at hl 0 rfl) ?_
    refine va_get (D := D) (ci := 2) (v := .ref (a1 1)) (C := R_Nd) (T := F_Nd) (N := 9) hx hb hts iw_Nd hown hK.1 hP 0 rfl rfl 2 (by decide) (hts _ mw_123) (fun _ h => h) rfl d_Nd_install_14 ?_
    refine lv_aload_n hx hb d_Nd_install_17 rfl (lv_at hl 1 rfl) ?_
    refine km_cv (wr := [(a1 0, .inr (2, [.int (mnd_number (mnd_s_state z1 u3)), .int (mnd_up (mnd_s_state z1 u3)), .ref (a1 1), .ref (a1 4), .int (mnd_last (mnd_s_state z1 u3)), .int (mnd_retired (mnd_s_state z1 u3)), .ref (a1 8), .int (mnd_pending (mnd_s_state z1 u3)), .ref (a1 9)])), (a1 4, .inr (1, [.ref (a1 5), .ref (a1 6), .ref (a1 7)])), (a1 5, .inl (cI, 40, .inl (mlg_promisedBallots (mnd_ledger (mnd_s_state z1 u3))))), (a1 6, .inl (cI, 40, .inl (mlg_voteBallots (mnd_ledger (mnd_s_state z1 u3))))), (a1 7, .inl (cI, 40, .inl (mlg_voteCommands (mnd_ledger (mnd_s_state z1 u3))))), (a1 8, .inl (cI, 9, .inl (mnd_knownCommands (mnd_s_state z1 u3)))), (a1 9, .inr (0, [.int (mat_slot (mnd_attempt (mnd_s_state z1 u3))), .int (mat_ballot (mnd_attempt (mnd_s_state z1 u3))), .int (mat_promisers (mnd_attempt (mnd_s_state z1 u3))), .int (mat_voters (mnd_attempt (mnd_s_state z1 u3))), .int (mat_bestBallot (mnd_attempt (mnd_s_state z1 u3))), .int (mat_bestCommand (mnd_attempt (mnd_s_state z1 u3))), .int (mat_command (mnd_attempt (mnd_s_state z1 u3)))]))]) (km_rVN (n := 1) hE kmG (c_St_copyFrom l D cI cN cZ (fun j => a1 (j + 1)) a2 u3 u2 _ hw) mw_294 (km_nM hK 19 rfl) mw_293 mp_13 mw_3 (by decide) ⟨rfl, rfl, ⟨by decide, by decide⟩, by decide, by decide⟩ hK (km_cut hP [1, 2, 3, 10, 11, 12] rfl) (hD.sub [1, 2, 3, 10, 11, 12] (by decide) rfl) (ci := 4) rfl hP (q0 := 1) rfl rfl hl.1 rfl (Nat.le_of_ble_eq_true rfl) d_Nd_install_18) hP hD hS hA [1, 2, 3, 10, 11, 12] [0, 4, 5, 6, 7, 8, 9] rfl rfl (by decide) (by decide) (fun ⟨u6, u7⟩ H locs hw hP hD hS => ?_)
    have hP := hP.sub (ws' := (mndW cI cN cZ a1 (mnd_s_state (mnd_s_state z1 u3) u6) ++ mstW cI cN cZ a2 u7)) [0, 7, 8, 9, 1, 2, 3, 4, 5, 6, 10, 11, 12] rfl
    have hD := hD.sub (ws' := (mndW cI cN cZ a1 (mnd_s_state (mnd_s_state z1 u3) u6) ++ mstW cI cN cZ a2 u7)) [0, 7, 8, 9, 1, 2, 3, 4, 5, 6, 10, 11, 12] (by decide) rfl
    refine lv_aload_n hx hb d_Nd_install_21 rfl (lv_at hl 0 rfl) ?_
    refine km_cv (wr := [(a2 0, .inr (4, [.int (mst_configuration u7), .int (mst_membership u7), .int (mst_executed u7), .ref (a2 1), .int (mst_doneBits u7), .ref (a2 2)])), (a2 1, .inl (cI, 4, .inl (mst_values u7))), (a2 2, .inl (cI, 31, .inl (mst_answers u7)))]) (km_rV (n := 0) hE kmG (c_Nd_leaveList l D cI cN cZ a1 (mnd_s_state (mnd_s_state z1 u3) u6) _ hw) mw_301 mw_298 mw_300 mp_14 mw_2 (by decide) ⟨rfl, rfl, ⟨by decide, by decide⟩, by decide, by decide⟩ hK (km_cut hP [0, 1, 2, 3, 4, 5, 6, 7, 8, 9] rfl) (hD.sub [0, 1, 2, 3, 4, 5, 6, 7, 8, 9] (by decide) rfl) (ci := 2) rfl hP (q0 := 0) rfl rfl hl.1 rfl (Nat.le_of_ble_eq_true rfl) d_Nd_install_22) hP hD hS hA [0, 1, 2, 3, 4, 5, 6, 7, 8, 9] [10, 11, 12] rfl rfl (by decide) (by decide) (fun u9 H locs hw hP hD hS => ?_)
    have hP := hP.sub (ws' := (mndW cI cN cZ a1 u9 ++ mstW cI cN cZ a2 u7)) [3, 4, 5, 6, 7, 8, 9, 10, 11, 12, 0, 1, 2] rfl
    have hD := hD.sub (ws' := (mndW cI cN cZ a1 u9 ++ mstW cI cN cZ a2 u7)) [3, 4, 5, 6, 7, 8, 9, 10, 11, 12, 0, 1, 2] (by decide) rfl
    refine lv_iconst (v := (1 : Int32)) hx hb d_Nd_install_25 (by decide) ?_
    exact W.zret (ty := .boolean) (v := (1 : Int32)) hx hb hr (by decide) (fun t ht hW => ⟨⟨(1 : Int32), (u9, u7), rfl, hw, by rw [ht]; exact hP, hD⟩, hS.F ht⟩) hS.2.2 d_Nd_install_26
  · have hw := hw.1 h4
    refine lv_iconst (v := (0 : Int32)) hx hb d_Nd_install_11 (by decide) ?_
    exact W.zret (ty := .boolean) (v := (0 : Int32)) hx hb hr (by decide) (fun t ht hW => ⟨⟨(0 : Int32), ((mnd_s_state z1 u3), u2), rfl, hw, by rw [ht]; exact hP, hD⟩, hS.F ht⟩) hS.2.2 d_Nd_install_12
set_option maxHeartbeats 4000000 in
set_option maxRecDepth 100000 in
theorem c_Nd_learnFrom (l : Launch) (D : va_G) (cI cN cZ : ClassId) (a1 : Nat → Nat) (a2 : Nat → Nat) (z1 : MndT) (z2 : MndT) (post : Int32 → MndT → MndT → Prop) (hw : wp_Nd_learnFrom z1 z2 post) : km_I l y_Nd_learnFrom (.code y_Nd_learnFrom b_Nd_learnFrom 4 (some .boolean) :: kmW) rm_Nd_learnFrom D kmC (kmT cI cN cZ) kmF kmM [.ref (a1 0), .ref (a2 0)] (mndW cI cN cZ a1 z1 ++ mndW cI cN cZ a2 z2) (fun (r : Int32) (u : MndT × MndT) => post r u.1 u.2) (fun (u : MndT × MndT) => (mndW cI cN cZ a1 u.1 ++ mndW cI cN cZ a2 u.2)) 0 0 := by
  refine km_startI (cc := b_Nd_learnFrom) (maxL := 4) (ret := (some .boolean)) (by decide) rfl (Nat.le_of_ble_eq_true rfl) ?_
  intro p e s m below meth c A ls hE hA hK hP hD hS hl
  obtain ⟨hx, hb, hr, hml, hown, hts0, hlk, hnm⟩ := id hE
  have hts : ∀ w ∈ kmW, w.before ([.ref (a1 0), .ref (a2 0)] : List Value).toArray s = true := fun w h => hts0 w (List.mem_cons_of_mem _ h)
  have hP : va_P D kmC (mndW cI cN cZ a1 z1 ++ mndW cI cN cZ a2 z2) s.heap := hP
  have hl : lv_has ls 4 [(0, .ref (a1 0)), (1, .ref (a2 0))] := hl
  unfold wp_Nd_learnFrom at hw
  refine lv_aload_n hx hb d_Nd_learnFrom_0 rfl (lv_at hl 1 rfl) ?_
  refine va_get (D := D) (ci := 2) (v := .ref (a2 1)) (C := R_Nd) (T := F_Nd) (N := 9) hx hb hts iw_Nd hown hK.1 hP 10 rfl rfl 2 (by decide) (hts _ mw_123) (fun _ h => h) rfl d_Nd_learnFrom_1 ?_
  refine va_getN (D := D) (ci := 4) (v := .int (mst_configuration (mnd_state z2))) (C := R_St) (T := F_St) (N := 6) hx hb hts iw_St hown hK.1 hP 11 rfl rfl 0 (by decide) (km_nF hK 1 rfl) (fun _ h => h) rfl d_Nd_learnFrom_4 ?_
  refine lv_aload_n hx hb d_Nd_learnFrom_7 rfl (lv_at hl 0 rfl) ?_
  refine va_get (D := D) (ci := 2) (v := .ref (a1 1)) (C := R_Nd) (T := F_Nd) (N := 9) hx hb hts iw_Nd hown hK.1 hP 0 rfl rfl 2 (by decide) (hts _ mw_123) (fun _ h => h) rfl d_Nd_learnFrom_8 ?_
  refine va_getN (D := D) (ci := 4) (v := .int (mst_configuration (mnd_state z1))) (C := R_St) (T := F_St) (N := 6) hx hb hts iw_St hown hK.1 hP 1 rfl rfl 0 (by decide) (km_nF hK 1 rfl) (fun _ h => h) rfl d_Nd_learnFrom_11 ?_
  refine lv_icmp_eq (tgt := 19) hx hb d_Nd_learnFrom_14 (by first | rfl | decide) (fun h1 => ?_) (fun h1 => ?_)
  · have hw := hw.1 h1
    refine lv_iconst (v := (0 : Int32)) hx hb d_Nd_learnFrom_19 (by decide) ?_
    refine lv_istore_n (lv' := [(2, .int (0 : Int32)), (0, .ref (a1 0)), (1, .ref (a2 0))]) hx hb d_Nd_learnFrom_20 rfl hl (by decide) rfl (fun ls hl => ?_)
    refine lv_iconst (v := (1 : Int32)) hx hb d_Nd_learnFrom_21 (by decide) ?_
    refine lv_istore_n (lv' := [(3, .int (1 : Int32)), (2, .int (0 : Int32)), (0, .ref (a1 0)), (1, .ref (a2 0))]) hx hb d_Nd_learnFrom_22 rfl hl (by decide) rfl (fun ls hl => ?_)
    have key23 : ∀ (K23 : Int32 → Int32 → MndT → MndT → Prop) (hk23 : ∀ (y2 : Int32) (y3 : Int32) (z1 : MndT) (z2 : MndT) (ls : Array Slot) (H : Heap) (locs : List Loc), K23 y2 y3 z1 z2 → lv_has ls 4 [(2, .int y2), (3, .int y3), (0, .ref (a1 0)), (1, .ref (a2 0))] → va_P D kmC (mndW cI cN cZ a1 z1 ++ mndW cI cN cZ a2 z2) H → va_D A (mndW cI cN cZ a1 z1 ++ mndW cI cN cZ a2 z2) → va_S A s.heap H locs → W p l e rm_Nd_learnFrom s m ([.ref (a1 0), .ref (a2 0)] : List Value).toArray below meth c H locs 0 0 (MQ below (va_Qi (fun (r : Int32) (u : MndT × MndT) => post r u.1 u.2) (km_B D kmC A (fun (u : MndT × MndT) => (mndW cI cN cZ a1 u.1 ++ mndW cI cN cZ a2 u.2))) A) ([.ref (a1 0), .ref (a2 0)] : List Value).toArray s 0 0 A) (F0 m 76 ls [])) (n23 : Nat), ∀ (y2 : Int32) (y3 : Int32) (z1 : MndT) (z2 : MndT) (ls : Array Slot) (H : Heap) (locs : List Loc), wp_Nd_learnFrom_L23 K23 n23 y2 y3 z1 z2 → lv_has ls 4 [(2, .int y2), (3, .int y3), (0, .ref (a1 0)), (1, .ref (a2 0))] → va_P D kmC (mndW cI cN cZ a1 z1 ++ mndW cI cN cZ a2 z2) H → va_D A (mndW cI cN cZ a1 z1 ++ mndW cI cN cZ a2 z2) → va_S A s.heap H locs → W p l e rm_Nd_learnFrom s m ([.ref (a1 0), .ref (a2 0)] : List Value).toArray below meth c H locs 0 0 (MQ below (va_Qi (fun (r : Int32) (u : MndT × MndT) => post r u.1 u.2) (km_B D kmC A (fun (u : MndT × MndT) => (mndW cI cN cZ a1 u.1 ++ mndW cI cN cZ a2 u.2))) A) ([.ref (a1 0), .ref (a2 0)] : List Value).toArray s 0 0 A) (F0 m 23 ls []) := by
      intro K23 hk23 n23
      induction n23 with
      | zero => intro y2 y3 z1 z2 ls H locs hw; exact hw.elim
      | succ n23 ih23 =>
        intro y2 y3 z1 z2 ls H locs hw hl hP hD hS
        refine lv_iload_n hx hb d_Nd_learnFrom_23 rfl (lv_at hl 1 rfl) ?_
        refine lv_bipush (v := (8 : Int32)) hx hb d_Nd_learnFrom_24 (by decide) ?_
        refine lv_icmp_gt (tgt := 76) hx hb d_Nd_learnFrom_26 (by first | rfl | decide) (fun h2 => ?_) (fun h2 => ?_)
        · have hw := hw.1 h2
          exact hk23 y2 y3 z1 z2 ls H locs hw (lv_sub hl [0, 1, 2, 3] rfl) hP hD hS
        · have hw := hw.2 h2
          refine lv_iload_n hx hb d_Nd_learnFrom_29 rfl (lv_at hl 1 rfl) ?_
          refine lv_aload_n hx hb d_Nd_learnFrom_30 rfl (lv_at hl 2 rfl) ?_
          refine va_get (D := D) (ci := 2) (v := .ref (a1 1)) (C := R_Nd) (T := F_Nd) (N := 9) hx hb hts iw_Nd hown hK.1 hP 0 rfl rfl 2 (by decide) (hts _ mw_123) (fun _ h => h) rfl d_Nd_learnFrom_31 ?_
          refine va_getN (D := D) (ci := 4) (v := .int (mst_executed (mnd_state z1))) (C := R_St) (T := F_St) (N := 6) hx hb hts iw_St hown hK.1 hP 1 rfl rfl 2 (by decide) (km_nF hK 3 rfl) (fun _ h => h) rfl d_Nd_learnFrom_34 ?_
          refine lv_icmp_le (tgt := 70) hx hb d_Nd_learnFrom_37 (by first | rfl | decide) (fun h3 => ?_) (fun h3 => ?_)
          · have hw := hw.1 h3
            obtain ⟨v4, ev4⟩ : ∃ z : Int32, z = (y3 + (1 : Int32)) := ⟨_, rfl⟩
            have hw := hw v4 ev4
            refine lv_iinc (v := v4) (lv' := [(3, .int v4), (2, .int y2), (0, .ref (a1 0)), (1, .ref (a2 0))]) hx hb d_Nd_learnFrom_70 hl (k := 1) rfl ev4.symm (by decide) rfl (fun ls hl => ?_)
            refine lv_goto (tgt := 23) hx hb d_Nd_learnFrom_73 (by first | rfl | decide) ?_
            exact ih23 y2 v4 z1 z2 ls H locs hw (lv_sub hl [1, 0, 2, 3] rfl) hP hD hS
          · have hw := hw.2 h3
            refine lv_aload_n hx hb d_Nd_learnFrom_40 rfl (lv_at hl 3 rfl) ?_
            refine lv_iload_n hx hb d_Nd_learnFrom_41 rfl (lv_at hl 1 rfl) ?_
            refine km_ci (wr := [(a1 0, .inr (2, [.int (mnd_number z1), .int (mnd_up z1), .ref (a1 1), .ref (a1 4), .int (mnd_last z1), .int (mnd_retired z1), .ref (a1 8), .int (mnd_pending z1), .ref (a1 9)])), (a1 1, .inr (4, [.int (mst_configuration (mnd_state z1)), .int (mst_membership (mnd_state z1)), .int (mst_executed (mnd_state z1)), .ref (a1 2), .int (mst_doneBits (mnd_state z1)), .ref (a1 3)])), (a1 2, .inl (cI, 4, .inl (mst_values (mnd_state z1)))), (a1 3, .inl (cI, 31, .inl (mst_answers (mnd_state z1)))), (a1 4, .inr (1, [.ref (a1 5), .ref (a1 6), .ref (a1 7)])), (a1 5, .inl (cI, 40, .inl (mlg_promisedBallots (mnd_ledger z1)))), (a1 6, .inl (cI, 40, .inl (mlg_voteBallots (mnd_ledger z1)))), (a1 7, .inl (cI, 40, .inl (mlg_voteCommands (mnd_ledger z1)))), (a1 8, .inl (cI, 9, .inl (mnd_knownCommands z1))), (a1 9, .inr (0, [.int (mat_slot (mnd_attempt z1)), .int (mat_ballot (mnd_attempt z1)), .int (mat_promisers (mnd_attempt z1)), .int (mat_voters (mnd_attempt z1)), .int (mat_bestBallot (mnd_attempt z1)), .int (mat_bestCommand (mnd_attempt z1)), .int (mat_command (mnd_attempt z1))]))]) (km_rV (n := 1) hE kmG (c_Nd_isKnownAt l D cI cN cZ a2 z2 y3 _ hw) mw_255 mw_252 mw_254 mp_6 mw_2 (by decide) ⟨rfl, rfl, ⟨by decide, by decide⟩, by decide, by decide⟩ hK (km_cut hP [10, 11, 12, 13, 14, 15, 16, 17, 18, 19] rfl) (hD.sub [10, 11, 12, 13, 14, 15, 16, 17, 18, 19] (by decide) rfl) (ci := 2) rfl hP (q0 := 10) rfl rfl hl.1 rfl (Nat.le_of_ble_eq_true rfl) d_Nd_learnFrom_42) hP hD hS hA [10, 11, 12, 13, 14, 15, 16, 17, 18, 19] [0, 1, 2, 3, 4, 5, 6, 7, 8, 9] rfl rfl (by decide) (by decide) (fun r5 u6 H locs hw hP hD hS => ?_)
            have hP : va_P D kmC (mndW cI cN cZ a1 z1 ++ mndW cI cN cZ a2 u6) H := hP
            have hD : va_D A (mndW cI cN cZ a1 z1 ++ mndW cI cN cZ a2 u6) := hD
            refine lv_if_eq (tgt := 70) hx hb d_Nd_learnFrom_45 (by first | rfl | decide) (fun h7 => ?_) (fun h7 => ?_)
            · have hw := hw.1 h7
              obtain ⟨v8, ev8⟩ : ∃ z : Int32, z = (y3 + (1 : Int32)) := ⟨_, rfl⟩
              have hw := hw v8 ev8
              refine lv_iinc (v := v8) (lv' := [(3, .int v8), (2, .int y2), (0, .ref (a1 0)), (1, .ref (a2 0))]) hx hb d_Nd_learnFrom_70 hl (k := 1) rfl ev8.symm (by decide) rfl (fun ls hl => ?_)
              refine lv_goto (tgt := 23) hx hb d_Nd_learnFrom_73 (by first | rfl | decide) ?_
              exact ih23 y2 v8 z1 u6 ls H locs hw (lv_sub hl [1, 0, 2, 3] rfl) hP hD hS
            · have hw := hw.2 h7
              refine lv_aload_n hx hb d_Nd_learnFrom_48 rfl (lv_at hl 2 rfl) ?_
              refine lv_iload_n hx hb d_Nd_learnFrom_49 rfl (lv_at hl 1 rfl) ?_
              refine km_ci (wr := [(a2 0, .inr (2, [.int (mnd_number u6), .int (mnd_up u6), .ref (a2 1), .ref (a2 4), .int (mnd_last u6), .int (mnd_retired u6), .ref (a2 8), .int (mnd_pending u6), .ref (a2 9)])), (a2 1, .inr (4, [.int (mst_configuration (mnd_state u6)), .int (mst_membership (mnd_state u6)), .int (mst_executed (mnd_state u6)), .ref (a2 2), .int (mst_doneBits (mnd_state u6)), .ref (a2 3)])), (a2 2, .inl (cI, 4, .inl (mst_values (mnd_state u6)))), (a2 3, .inl (cI, 31, .inl (mst_answers (mnd_state u6)))), (a2 4, .inr (1, [.ref (a2 5), .ref (a2 6), .ref (a2 7)])), (a2 5, .inl (cI, 40, .inl (mlg_promisedBallots (mnd_ledger u6)))), (a2 6, .inl (cI, 40, .inl (mlg_voteBallots (mnd_ledger u6)))), (a2 7, .inl (cI, 40, .inl (mlg_voteCommands (mnd_ledger u6)))), (a2 8, .inl (cI, 9, .inl (mnd_knownCommands u6))), (a2 9, .inr (0, [.int (mat_slot (mnd_attempt u6)), .int (mat_ballot (mnd_attempt u6)), .int (mat_promisers (mnd_attempt u6)), .int (mat_voters (mnd_attempt u6)), .int (mat_bestBallot (mnd_attempt u6)), .int (mat_bestCommand (mnd_attempt u6)), .int (mat_command (mnd_attempt u6))]))]) (km_rV (n := 1) hE kmG (c_Nd_isKnownAt l D cI cN cZ a1 z1 y3 _ hw) mw_255 mw_252 mw_254 mp_6 mw_2 (by decide) ⟨rfl, rfl, ⟨by decide, by decide⟩, by decide, by decide⟩ hK (km_cut hP [0, 1, 2, 3, 4, 5, 6, 7, 8, 9] rfl) (hD.sub [0, 1, 2, 3, 4, 5, 6, 7, 8, 9] (by decide) rfl) (ci := 2) rfl hP (q0 := 0) rfl rfl hl.1 rfl (Nat.le_of_ble_eq_true rfl) d_Nd_learnFrom_50) hP hD hS hA [0, 1, 2, 3, 4, 5, 6, 7, 8, 9] [10, 11, 12, 13, 14, 15, 16, 17, 18, 19] rfl rfl (by decide) (by decide) (fun r9 u10 H locs hw hP hD hS => ?_)
              have hP := hP.sub (ws' := (mndW cI cN cZ a1 u10 ++ mndW cI cN cZ a2 u6)) [10, 11, 12, 13, 14, 15, 16, 17, 18, 19, 0, 1, 2, 3, 4, 5, 6, 7, 8, 9] rfl
              have hD := hD.sub (ws' := (mndW cI cN cZ a1 u10 ++ mndW cI cN cZ a2 u6)) [10, 11, 12, 13, 14, 15, 16, 17, 18, 19, 0, 1, 2, 3, 4, 5, 6, 7, 8, 9] (by decide) rfl
              refine lv_if_ne (tgt := 70) hx hb d_Nd_learnFrom_53 (by first | rfl | decide) (fun h11 => ?_) (fun h11 => ?_)
              · have hw := hw.2 h11
                obtain ⟨v12, ev12⟩ : ∃ z : Int32, z = (y3 + (1 : Int32)) := ⟨_, rfl⟩
                have hw := hw v12 ev12
                refine lv_iinc (v := v12) (lv' := [(3, .int v12), (2, .int y2), (0, .ref (a1 0)), (1, .ref (a2 0))]) hx hb d_Nd_learnFrom_70 hl (k := 1) rfl ev12.symm (by decide) rfl (fun ls hl => ?_)
                refine lv_goto (tgt := 23) hx hb d_Nd_learnFrom_73 (by first | rfl | decide) ?_
                exact ih23 y2 v12 u10 u6 ls H locs hw (lv_sub hl [1, 0, 2, 3] rfl) hP hD hS
              · have hw := hw.1 h11
                refine lv_aload_n hx hb d_Nd_learnFrom_56 rfl (lv_at hl 2 rfl) ?_
                refine va_get (D := D) (ci := 2) (v := .ref (a1 8)) (C := R_Nd) (T := F_Nd) (N := 9) hx hb hts iw_Nd hown hK.1 hP 0 rfl rfl 6 (by decide) (hts _ mw_131) (fun _ h => h) rfl d_Nd_learnFrom_57 ?_
                refine lv_iload_n hx hb d_Nd_learnFrom_60 rfl (lv_at hl 1 rfl) ?_
                refine lv_aload_n hx hb d_Nd_learnFrom_61 rfl (lv_at hl 3 rfl) ?_
                refine va_get (D := D) (ci := 2) (v := .ref (a2 8)) (C := R_Nd) (T := F_Nd) (N := 9) hx hb hts iw_Nd hown hK.1 hP 10 rfl rfl 6 (by decide) (hts _ mw_131) (fun _ h => h) rfl d_Nd_learnFrom_62 ?_
                refine lv_iload_n hx hb d_Nd_learnFrom_65 rfl (lv_at hl 1 rfl) ?_
                obtain ⟨hin, hw⟩ := hw
                refine va_iald (f := (mnd_knownCommands u6)) hx hb hK.1 hP 18 0 rfl rfl hin d_Nd_learnFrom_66 ?_
                obtain ⟨hin, hw⟩ := hw
                refine va_iast (f := (mnd_knownCommands u10)) hx hb hK.1 hP hD hS 8 0 rfl rfl hin d_Nd_learnFrom_67 (fun H locs hP hD hS => ?_)
                have hP : va_P D kmC (mndW cI cN cZ a1 (mnd_s_knownCommands u10 (upd (mnd_knownCommands u10) (y3).toNatClampNeg ((mnd_knownCommands u6) (y3).toNatClampNeg))) ++ mndW cI cN cZ a2 u6) H := hP
                have hD : va_D A (mndW cI cN cZ a1 (mnd_s_knownCommands u10 (upd (mnd_knownCommands u10) (y3).toNatClampNeg ((mnd_knownCommands u6) (y3).toNatClampNeg))) ++ mndW cI cN cZ a2 u6) := hD
                refine lv_iconst (v := (1 : Int32)) hx hb d_Nd_learnFrom_68 (by decide) ?_
                refine lv_istore_n (lv' := [(2, .int (1 : Int32)), (3, .int y3), (0, .ref (a1 0)), (1, .ref (a2 0))]) hx hb d_Nd_learnFrom_69 rfl hl (by decide) rfl (fun ls hl => ?_)
                obtain ⟨v13, ev13⟩ : ∃ z : Int32, z = (y3 + (1 : Int32)) := ⟨_, rfl⟩
                have hw := hw v13 ev13
                refine lv_iinc (v := v13) (lv' := [(3, .int v13), (2, .int (1 : Int32)), (0, .ref (a1 0)), (1, .ref (a2 0))]) hx hb d_Nd_learnFrom_70 hl (k := 1) rfl ev13.symm (by decide) rfl (fun ls hl => ?_)
                refine lv_goto (tgt := 23) hx hb d_Nd_learnFrom_73 (by first | rfl | decide) ?_
                exact ih23 (1 : Int32) v13 (mnd_s_knownCommands u10 (upd (mnd_knownCommands u10) (y3).toNatClampNeg ((mnd_knownCommands u6) (y3).toNatClampNeg))) u6 ls H locs hw (lv_sub hl [1, 0, 2, 3] rfl) hP hD hS
    obtain ⟨n23, hw⟩ := hw
    refine key23 _ (fun y2 y3 z1 z2 ls H locs hw hl hP hD hS => ?_) n23 (0 : Int32) (1 : Int32) z1 z2 ls s.heap [] hw (lv_sub hl [1, 0, 2, 3] rfl) hP hD hS
    refine lv_iload_n hx hb d_Nd_learnFrom_76 rfl (lv_at hl 0 rfl) ?_
    obtain ⟨hnar, hw⟩ := hw
    exact W.zret (ty := .boolean) (v := y2) hx hb hr hnar (fun t ht hW => ⟨⟨y2, (z1, z2), rfl, hw, by rw [ht]; exact hP, hD⟩, hS.F ht⟩) hS.2.2 d_Nd_learnFrom_77
  · have hw := hw.2 h1
    refine lv_iconst (v := (0 : Int32)) hx hb d_Nd_learnFrom_17 (by decide) ?_
    exact W.zret (ty := .boolean) (v := (0 : Int32)) hx hb hr (by decide) (fun t ht hW => ⟨⟨(0 : Int32), (z1, z2), rfl, hw, by rw [ht]; exact hP, hD⟩, hS.F ht⟩) hS.2.2 d_Nd_learnFrom_18
