theorem d_St_isDone_0 : decode b_St_isDone 0 = .ok (.aload_n 0, 1) := by decide +kernel
theorem d_St_isDone_1 : decode b_St_isDone 1 = .ok (.getfield 25, 3) := by decide +kernel
theorem d_St_isDone_4 : decode b_St_isDone 4 = .ok (.iload_n 1, 1) := by decide +kernel
theorem d_St_isDone_5 : decode b_St_isDone 5 = .ok (.ishr, 1) := by decide +kernel
theorem d_St_isDone_6 : decode b_St_isDone 6 = .ok (.iconst 1, 1) := by decide +kernel
theorem d_St_isDone_7 : decode b_St_isDone 7 = .ok (.iand, 1) := by decide +kernel
theorem d_St_isDone_8 : decode b_St_isDone 8 = .ok (.ifCond .eq 7, 3) := by decide +kernel
theorem d_St_isDone_11 : decode b_St_isDone 11 = .ok (.iconst 1, 1) := by decide +kernel
theorem d_St_isDone_12 : decode b_St_isDone 12 = .ok (.goto 4, 3) := by decide +kernel
theorem d_St_isDone_15 : decode b_St_isDone 15 = .ok (.iconst 0, 1) := by decide +kernel
theorem d_St_isDone_16 : decode b_St_isDone 16 = .ok (.ireturn, 1) := by decide +kernel
theorem d_St_hasMember_0 : decode b_St_hasMember 0 = .ok (.aload_n 0, 1) := by decide +kernel
theorem d_St_hasMember_1 : decode b_St_hasMember 1 = .ok (.getfield 15, 3) := by decide +kernel
theorem d_St_hasMember_4 : decode b_St_hasMember 4 = .ok (.iload_n 1, 1) := by decide +kernel
theorem d_St_hasMember_5 : decode b_St_hasMember 5 = .ok (.ishr, 1) := by decide +kernel
theorem d_St_hasMember_6 : decode b_St_hasMember 6 = .ok (.iconst 1, 1) := by decide +kernel
theorem d_St_hasMember_7 : decode b_St_hasMember 7 = .ok (.iand, 1) := by decide +kernel
theorem d_St_hasMember_8 : decode b_St_hasMember 8 = .ok (.ifCond .eq 7, 3) := by decide +kernel
theorem d_St_hasMember_11 : decode b_St_hasMember 11 = .ok (.iconst 1, 1) := by decide +kernel
theorem d_St_hasMember_12 : decode b_St_hasMember 12 = .ok (.goto 4, 3) := by decide +kernel
theorem d_St_hasMember_15 : decode b_St_hasMember 15 = .ok (.iconst 0, 1) := by decide +kernel
theorem d_St_hasMember_16 : decode b_St_hasMember 16 = .ok (.ireturn, 1) := by decide +kernel
theorem d_St_isMajority_0 : decode b_St_isMajority 0 = .ok (.iconst 2, 1) := by decide +kernel
theorem d_St_isMajority_1 : decode b_St_isMajority 1 = .ok (.iload_n 1, 1) := by decide +kernel
theorem d_St_isMajority_2 : decode b_St_isMajority 2 = .ok (.aload_n 0, 1) := by decide +kernel
theorem d_St_isMajority_3 : decode b_St_isMajority 3 = .ok (.getfield 15, 3) := by decide +kernel
theorem d_St_isMajority_6 : decode b_St_isMajority 6 = .ok (.iand, 1) := by decide +kernel
theorem d_St_isMajority_7 : decode b_St_isMajority 7 = .ok (.invokestatic 31, 3) := by decide +kernel
theorem d_St_isMajority_10 : decode b_St_isMajority 10 = .ok (.imul, 1) := by decide +kernel
theorem d_St_isMajority_11 : decode b_St_isMajority 11 = .ok (.aload_n 0, 1) := by decide +kernel
theorem d_St_isMajority_12 : decode b_St_isMajority 12 = .ok (.getfield 15, 3) := by decide +kernel
theorem d_St_isMajority_15 : decode b_St_isMajority 15 = .ok (.invokestatic 31, 3) := by decide +kernel
theorem d_St_isMajority_18 : decode b_St_isMajority 18 = .ok (.if_icmp .le 7, 3) := by decide +kernel
theorem d_St_isMajority_21 : decode b_St_isMajority 21 = .ok (.iconst 1, 1) := by decide +kernel
theorem d_St_isMajority_22 : decode b_St_isMajority 22 = .ok (.goto 4, 3) := by decide +kernel
theorem d_St_isMajority_25 : decode b_St_isMajority 25 = .ok (.iconst 0, 1) := by decide +kernel
theorem d_St_isMajority_26 : decode b_St_isMajority 26 = .ok (.ireturn, 1) := by decide +kernel
theorem d_St_isLaterThan_0 : decode b_St_isLaterThan 0 = .ok (.aload_n 0, 1) := by decide +kernel
theorem d_St_isLaterThan_1 : decode b_St_isLaterThan 1 = .ok (.getfield 9, 3) := by decide +kernel
theorem d_St_isLaterThan_4 : decode b_St_isLaterThan 4 = .ok (.aload_n 1, 1) := by decide +kernel
theorem d_St_isLaterThan_5 : decode b_St_isLaterThan 5 = .ok (.getfield 9, 3) := by decide +kernel
theorem d_St_isLaterThan_8 : decode b_St_isLaterThan 8 = .ok (.if_icmp .eq 20, 3) := by decide +kernel
theorem d_St_isLaterThan_11 : decode b_St_isLaterThan 11 = .ok (.aload_n 0, 1) := by decide +kernel
theorem d_St_isLaterThan_12 : decode b_St_isLaterThan 12 = .ok (.getfield 9, 3) := by decide +kernel
theorem d_St_isLaterThan_15 : decode b_St_isLaterThan 15 = .ok (.aload_n 1, 1) := by decide +kernel
theorem d_St_isLaterThan_16 : decode b_St_isLaterThan 16 = .ok (.getfield 9, 3) := by decide +kernel
theorem d_St_isLaterThan_19 : decode b_St_isLaterThan 19 = .ok (.if_icmp .le 7, 3) := by decide +kernel
theorem d_St_isLaterThan_22 : decode b_St_isLaterThan 22 = .ok (.iconst 1, 1) := by decide +kernel
theorem d_St_isLaterThan_23 : decode b_St_isLaterThan 23 = .ok (.goto 4, 3) := by decide +kernel
theorem d_St_isLaterThan_26 : decode b_St_isLaterThan 26 = .ok (.iconst 0, 1) := by decide +kernel
theorem d_St_isLaterThan_27 : decode b_St_isLaterThan 27 = .ok (.ireturn, 1) := by decide +kernel
theorem d_St_isLaterThan_28 : decode b_St_isLaterThan 28 = .ok (.aload_n 0, 1) := by decide +kernel
theorem d_St_isLaterThan_29 : decode b_St_isLaterThan 29 = .ok (.getfield 18, 3) := by decide +kernel
theorem d_St_isLaterThan_32 : decode b_St_isLaterThan 32 = .ok (.aload_n 1, 1) := by decide +kernel
theorem d_St_isLaterThan_33 : decode b_St_isLaterThan 33 = .ok (.getfield 18, 3) := by decide +kernel
theorem d_St_isLaterThan_36 : decode b_St_isLaterThan 36 = .ok (.if_icmp .le 7, 3) := by decide +kernel
theorem d_St_isLaterThan_39 : decode b_St_isLaterThan 39 = .ok (.iconst 1, 1) := by decide +kernel
theorem d_St_isLaterThan_40 : decode b_St_isLaterThan 40 = .ok (.goto 4, 3) := by decide +kernel
theorem d_St_isLaterThan_43 : decode b_St_isLaterThan 43 = .ok (.iconst 0, 1) := by decide +kernel
theorem d_St_isLaterThan_44 : decode b_St_isLaterThan 44 = .ok (.ireturn, 1) := by decide +kernel
theorem d_St_copyFrom_0 : decode b_St_copyFrom 0 = .ok (.aload_n 0, 1) := by decide +kernel
theorem d_St_copyFrom_1 : decode b_St_copyFrom 1 = .ok (.aload_n 1, 1) := by decide +kernel
theorem d_St_copyFrom_2 : decode b_St_copyFrom 2 = .ok (.getfield 9, 3) := by decide +kernel
theorem d_St_copyFrom_5 : decode b_St_copyFrom 5 = .ok (.putfield 9, 3) := by decide +kernel
theorem d_St_copyFrom_8 : decode b_St_copyFrom 8 = .ok (.aload_n 0, 1) := by decide +kernel
theorem d_St_copyFrom_9 : decode b_St_copyFrom 9 = .ok (.aload_n 1, 1) := by decide +kernel
theorem d_St_copyFrom_10 : decode b_St_copyFrom 10 = .ok (.getfield 15, 3) := by decide +kernel
theorem d_St_copyFrom_13 : decode b_St_copyFrom 13 = .ok (.putfield 15, 3) := by decide +kernel
theorem d_St_copyFrom_16 : decode b_St_copyFrom 16 = .ok (.aload_n 0, 1) := by decide +kernel
theorem d_St_copyFrom_17 : decode b_St_copyFrom 17 = .ok (.aload_n 1, 1) := by decide +kernel
theorem d_St_copyFrom_18 : decode b_St_copyFrom 18 = .ok (.getfield 18, 3) := by decide +kernel
theorem d_St_copyFrom_21 : decode b_St_copyFrom 21 = .ok (.putfield 18, 3) := by decide +kernel
theorem d_St_copyFrom_24 : decode b_St_copyFrom 24 = .ok (.aload_n 0, 1) := by decide +kernel
theorem d_St_copyFrom_25 : decode b_St_copyFrom 25 = .ok (.aload_n 1, 1) := by decide +kernel
theorem d_St_copyFrom_26 : decode b_St_copyFrom 26 = .ok (.getfield 25, 3) := by decide +kernel
theorem d_St_copyFrom_29 : decode b_St_copyFrom 29 = .ok (.putfield 25, 3) := by decide +kernel
theorem d_St_copyFrom_32 : decode b_St_copyFrom 32 = .ok (.aload_n 1, 1) := by decide +kernel
theorem d_St_copyFrom_33 : decode b_St_copyFrom 33 = .ok (.getfield 21, 3) := by decide +kernel
theorem d_St_copyFrom_36 : decode b_St_copyFrom 36 = .ok (.iconst 0, 1) := by decide +kernel
theorem d_St_copyFrom_37 : decode b_St_copyFrom 37 = .ok (.aload_n 0, 1) := by decide +kernel
theorem d_St_copyFrom_38 : decode b_St_copyFrom 38 = .ok (.getfield 21, 3) := by decide +kernel
theorem d_St_copyFrom_41 : decode b_St_copyFrom 41 = .ok (.iconst 0, 1) := by decide +kernel
theorem d_St_copyFrom_42 : decode b_St_copyFrom 42 = .ok (.iconst 4, 1) := by decide +kernel
theorem d_St_copyFrom_43 : decode b_St_copyFrom 43 = .ok (.invokestatic 37, 3) := by decide +kernel
theorem d_St_copyFrom_46 : decode b_St_copyFrom 46 = .ok (.aload_n 1, 1) := by decide +kernel
theorem d_St_copyFrom_47 : decode b_St_copyFrom 47 = .ok (.getfield 28, 3) := by decide +kernel
theorem d_St_copyFrom_50 : decode b_St_copyFrom 50 = .ok (.iconst 0, 1) := by decide +kernel
theorem d_St_copyFrom_51 : decode b_St_copyFrom 51 = .ok (.aload_n 0, 1) := by decide +kernel
theorem d_St_copyFrom_52 : decode b_St_copyFrom 52 = .ok (.getfield 28, 3) := by decide +kernel
theorem d_St_copyFrom_55 : decode b_St_copyFrom 55 = .ok (.iconst 0, 1) := by decide +kernel
theorem d_St_copyFrom_56 : decode b_St_copyFrom 56 = .ok (.bipush 31, 2) := by decide +kernel
theorem d_St_copyFrom_58 : decode b_St_copyFrom 58 = .ok (.invokestatic 37, 3) := by decide +kernel
theorem d_St_copyFrom_61 : decode b_St_copyFrom 61 = .ok (.return_, 1) := by decide +kernel
theorem d_St_seal_0 : decode b_St_seal 0 = .ok (.aload_n 0, 1) := by decide +kernel
theorem d_St_seal_1 : decode b_St_seal 1 = .ok (.getfield 9, 3) := by decide +kernel
theorem d_St_seal_4 : decode b_St_seal 4 = .ok (.iconst 4, 1) := by decide +kernel
theorem d_St_seal_5 : decode b_St_seal 5 = .ok (.if_icmp .lt 5, 3) := by decide +kernel
theorem d_St_seal_8 : decode b_St_seal 8 = .ok (.iconst (-1), 1) := by decide +kernel
theorem d_St_seal_9 : decode b_St_seal 9 = .ok (.ireturn, 1) := by decide +kernel
theorem d_St_seal_10 : decode b_St_seal 10 = .ok (.aload_n 0, 1) := by decide +kernel
theorem d_St_seal_11 : decode b_St_seal 11 = .ok (.dup, 1) := by decide +kernel
theorem d_St_seal_12 : decode b_St_seal 12 = .ok (.getfield 9, 3) := by decide +kernel
theorem d_St_seal_15 : decode b_St_seal 15 = .ok (.iconst 1, 1) := by decide +kernel
theorem d_St_seal_16 : decode b_St_seal 16 = .ok (.iadd, 1) := by decide +kernel
theorem d_St_seal_17 : decode b_St_seal 17 = .ok (.putfield 9, 3) := by decide +kernel
theorem d_St_seal_20 : decode b_St_seal 20 = .ok (.aload_n 0, 1) := by decide +kernel
theorem d_St_seal_21 : decode b_St_seal 21 = .ok (.iload_n 1, 1) := by decide +kernel
theorem d_St_seal_22 : decode b_St_seal 22 = .ok (.putfield 15, 3) := by decide +kernel
theorem d_St_seal_25 : decode b_St_seal 25 = .ok (.aload_n 0, 1) := by decide +kernel
theorem d_St_seal_26 : decode b_St_seal 26 = .ok (.iconst 0, 1) := by decide +kernel
theorem d_St_seal_27 : decode b_St_seal 27 = .ok (.putfield 18, 3) := by decide +kernel
theorem d_St_seal_30 : decode b_St_seal 30 = .ok (.aload_n 0, 1) := by decide +kernel
theorem d_St_seal_31 : decode b_St_seal 31 = .ok (.getfield 9, 3) := by decide +kernel
theorem d_St_seal_34 : decode b_St_seal 34 = .ok (.ireturn, 1) := by decide +kernel
theorem d_St_act_0 : decode b_St_act 0 = .ok (.aload_n 0, 1) := by decide +kernel
theorem d_St_act_1 : decode b_St_act 1 = .ok (.getfield 21, 3) := by decide +kernel
theorem d_St_act_4 : decode b_St_act 4 = .ok (.iload_n 2, 1) := by decide +kernel
theorem d_St_act_5 : decode b_St_act 5 = .ok (.iaload, 1) := by decide +kernel
theorem d_St_act_6 : decode b_St_act 6 = .ok (.istore 4, 2) := by decide +kernel
theorem d_St_act_8 : decode b_St_act 8 = .ok (.iload_n 1, 1) := by decide +kernel
theorem d_St_act_9 : decode b_St_act 9 = .ok (.tableswitch 57 0 2 #[27, 30, 40], 27) := by decide +kernel
theorem d_St_act_36 : decode b_St_act 36 = .ok (.iload 4, 2) := by decide +kernel
theorem d_St_act_38 : decode b_St_act 38 = .ok (.ireturn, 1) := by decide +kernel
theorem d_St_act_39 : decode b_St_act 39 = .ok (.aload_n 0, 1) := by decide +kernel
theorem d_St_act_40 : decode b_St_act 40 = .ok (.getfield 21, 3) := by decide +kernel
theorem d_St_act_43 : decode b_St_act 43 = .ok (.iload_n 2, 1) := by decide +kernel
theorem d_St_act_44 : decode b_St_act 44 = .ok (.iload_n 3, 1) := by decide +kernel
theorem d_St_act_45 : decode b_St_act 45 = .ok (.iastore, 1) := by decide +kernel
theorem d_St_act_46 : decode b_St_act 46 = .ok (.iload 4, 2) := by decide +kernel
theorem d_St_act_48 : decode b_St_act 48 = .ok (.ireturn, 1) := by decide +kernel
theorem d_St_act_49 : decode b_St_act 49 = .ok (.aload_n 0, 1) := by decide +kernel
theorem d_St_act_50 : decode b_St_act 50 = .ok (.getfield 21, 3) := by decide +kernel
theorem d_St_act_53 : decode b_St_act 53 = .ok (.iload_n 2, 1) := by decide +kernel
theorem d_St_act_54 : decode b_St_act 54 = .ok (.iload 4, 2) := by decide +kernel
theorem d_St_act_56 : decode b_St_act 56 = .ok (.iload_n 3, 1) := by decide +kernel
theorem d_St_act_57 : decode b_St_act 57 = .ok (.iadd, 1) := by decide +kernel
theorem d_St_act_58 : decode b_St_act 58 = .ok (.iastore, 1) := by decide +kernel
theorem d_St_act_59 : decode b_St_act 59 = .ok (.aload_n 0, 1) := by decide +kernel
theorem d_St_act_60 : decode b_St_act 60 = .ok (.getfield 21, 3) := by decide +kernel
theorem d_St_act_63 : decode b_St_act 63 = .ok (.iload_n 2, 1) := by decide +kernel
theorem d_St_act_64 : decode b_St_act 64 = .ok (.iaload, 1) := by decide +kernel
theorem d_St_act_65 : decode b_St_act 65 = .ok (.ireturn, 1) := by decide +kernel
theorem d_St_act_66 : decode b_St_act 66 = .ok (.aload_n 0, 1) := by decide +kernel
theorem d_St_act_67 : decode b_St_act 67 = .ok (.iload_n 3, 1) := by decide +kernel
theorem d_St_act_68 : decode b_St_act 68 = .ok (.invokevirtual 65, 3) := by decide +kernel
theorem d_St_act_71 : decode b_St_act 71 = .ok (.ireturn, 1) := by decide +kernel
theorem d_St_execute_0 : decode b_St_execute 0 = .ok (.aload_n 0, 1) := by decide +kernel
theorem d_St_execute_1 : decode b_St_execute 1 = .ok (.dup, 1) := by decide +kernel
theorem d_St_execute_2 : decode b_St_execute 2 = .ok (.getfield 18, 3) := by decide +kernel
theorem d_St_execute_5 : decode b_St_execute 5 = .ok (.iconst 1, 1) := by decide +kernel
theorem d_St_execute_6 : decode b_St_execute 6 = .ok (.iadd, 1) := by decide +kernel
theorem d_St_execute_7 : decode b_St_execute 7 = .ok (.putfield 18, 3) := by decide +kernel
theorem d_St_execute_10 : decode b_St_execute 10 = .ok (.aload_n 2, 1) := by decide +kernel
theorem d_St_execute_11 : decode b_St_execute 11 = .ok (.iload_n 1, 1) := by decide +kernel
theorem d_St_execute_12 : decode b_St_execute 12 = .ok (.invokevirtual 43, 3) := by decide +kernel
theorem d_St_execute_15 : decode b_St_execute 15 = .ok (.ifCond .eq 51, 3) := by decide +kernel
theorem d_St_execute_18 : decode b_St_execute 18 = .ok (.aload_n 0, 1) := by decide +kernel
theorem d_St_execute_19 : decode b_St_execute 19 = .ok (.iload_n 1, 1) := by decide +kernel
theorem d_St_execute_20 : decode b_St_execute 20 = .ok (.invokevirtual 49, 3) := by decide +kernel
theorem d_St_execute_23 : decode b_St_execute 23 = .ok (.ifCond .ne 43, 3) := by decide +kernel
theorem d_St_execute_26 : decode b_St_execute 26 = .ok (.aload_n 0, 1) := by decide +kernel
theorem d_St_execute_27 : decode b_St_execute 27 = .ok (.getfield 28, 3) := by decide +kernel
theorem d_St_execute_30 : decode b_St_execute 30 = .ok (.iload_n 1, 1) := by decide +kernel
theorem d_St_execute_31 : decode b_St_execute 31 = .ok (.aload_n 0, 1) := by decide +kernel
theorem d_St_execute_32 : decode b_St_execute 32 = .ok (.aload_n 2, 1) := by decide +kernel
theorem d_St_execute_33 : decode b_St_execute 33 = .ok (.getfield 52, 3) := by decide +kernel
theorem d_St_execute_36 : decode b_St_execute 36 = .ok (.iload_n 1, 1) := by decide +kernel
theorem d_St_execute_37 : decode b_St_execute 37 = .ok (.iaload, 1) := by decide +kernel
theorem d_St_execute_38 : decode b_St_execute 38 = .ok (.aload_n 2, 1) := by decide +kernel
theorem d_St_execute_39 : decode b_St_execute 39 = .ok (.getfield 55, 3) := by decide +kernel
theorem d_St_execute_42 : decode b_St_execute 42 = .ok (.iload_n 1, 1) := by decide +kernel
theorem d_St_execute_43 : decode b_St_execute 43 = .ok (.iaload, 1) := by decide +kernel
theorem d_St_execute_44 : decode b_St_execute 44 = .ok (.aload_n 2, 1) := by decide +kernel
theorem d_St_execute_45 : decode b_St_execute 45 = .ok (.getfield 58, 3) := by decide +kernel
theorem d_St_execute_48 : decode b_St_execute 48 = .ok (.iload_n 1, 1) := by decide +kernel
theorem d_St_execute_49 : decode b_St_execute 49 = .ok (.iaload, 1) := by decide +kernel
theorem d_St_execute_50 : decode b_St_execute 50 = .ok (.invokevirtual 61, 3) := by decide +kernel
theorem d_St_execute_53 : decode b_St_execute 53 = .ok (.iastore, 1) := by decide +kernel
theorem d_St_execute_54 : decode b_St_execute 54 = .ok (.aload_n 0, 1) := by decide +kernel
theorem d_St_execute_55 : decode b_St_execute 55 = .ok (.dup, 1) := by decide +kernel
theorem d_St_execute_56 : decode b_St_execute 56 = .ok (.getfield 25, 3) := by decide +kernel
theorem d_St_execute_59 : decode b_St_execute 59 = .ok (.iconst 1, 1) := by decide +kernel
theorem d_St_execute_60 : decode b_St_execute 60 = .ok (.iload_n 1, 1) := by decide +kernel
theorem d_St_execute_61 : decode b_St_execute 61 = .ok (.ishl, 1) := by decide +kernel
theorem d_St_execute_62 : decode b_St_execute 62 = .ok (.ior, 1) := by decide +kernel
theorem d_St_execute_63 : decode b_St_execute 63 = .ok (.putfield 25, 3) := by decide +kernel
theorem d_St_execute_66 : decode b_St_execute 66 = .ok (.return_, 1) := by decide +kernel
def wp_St_isDone (z1 : MstT) (x1 : Int32) (post : Int32 → MstT → Prop) : Prop := (((((mst_doneBits z1) >>> (x1 &&& 31)) &&& (1 : Int32)) = (0 : Int32) → (post (0 : Int32) z1)) ∧ (¬ (((mst_doneBits z1) >>> (x1 &&& 31)) &&& (1 : Int32)) = (0 : Int32) → (post (1 : Int32) z1)))
abbrev rm_St_isDone : Room := { frames := 0, cells := 0, slots := 0, locals := 0 }
def wp_St_hasMember (z1 : MstT) (x1 : Int32) (post : Int32 → MstT → Prop) : Prop := (((((mst_membership z1) >>> (x1 &&& 31)) &&& (1 : Int32)) = (0 : Int32) → (post (0 : Int32) z1)) ∧ (¬ (((mst_membership z1) >>> (x1 &&& 31)) &&& (1 : Int32)) = (0 : Int32) → (post (1 : Int32) z1)))
abbrev rm_St_hasMember : Room := { frames := 0, cells := 0, slots := 0, locals := 0 }
def wp_St_isMajority (z1 : MstT) (x1 : Int32) (post : Int32 → MstT → Prop) : Prop := (wp_Ji_bitCount (x1 &&& (mst_membership z1)) (fun (r1 : Int32) => (wp_Ji_bitCount (mst_membership z1) (fun (r2 : Int32) => ((((2 : Int32) * r1) ≤ r2 → (post (0 : Int32) z1)) ∧ (¬ ((2 : Int32) * r1) ≤ r2 → (post (1 : Int32) z1)))))))
abbrev rm_St_isMajority : Room := { frames := 1, cells := 0, slots := 0, locals := 20 }
def wp_St_isLaterThan (z1 : MstT) (z2 : MstT) (post : Int32 → MstT → MstT → Prop) : Prop := (((mst_configuration z1) = (mst_configuration z2) → (((mst_executed z1) ≤ (mst_executed z2) → (post (0 : Int32) z1 z2)) ∧ (¬ (mst_executed z1) ≤ (mst_executed z2) → (post (1 : Int32) z1 z2)))) ∧ (¬ (mst_configuration z1) = (mst_configuration z2) → (((mst_configuration z1) ≤ (mst_configuration z2) → (post (0 : Int32) z1 z2)) ∧ (¬ (mst_configuration z1) ≤ (mst_configuration z2) → (post (1 : Int32) z1 z2)))))
abbrev rm_St_isLaterThan : Room := { frames := 0, cells := 0, slots := 0, locals := 0 }
def wp_St_copyFrom (z1 : MstT) (z2 : MstT) (post : MstT → MstT → Prop) : Prop := (post (mst_s_answers (mst_s_values (mst_s_doneBits (mst_s_executed (mst_s_membership (mst_s_configuration z1 (mst_configuration z2)) (mst_membership z2)) (mst_executed z2)) (mst_doneBits z2)) (va_cpy (mst_values z2) (mst_values z1) ((0 : Int32)).toNatClampNeg ((0 : Int32)).toNatClampNeg ((4 : Int32)).toNatClampNeg)) (va_cpy (mst_answers z2) (mst_answers z1) ((0 : Int32)).toNatClampNeg ((0 : Int32)).toNatClampNeg ((31 : Int32)).toNatClampNeg)) z2)
abbrev rm_St_copyFrom : Room := { frames := 1, cells := 0, slots := 0, locals := 40 }
def wp_St_seal (z1 : MstT) (x1 : Int32) (post : Int32 → MstT → Prop) : Prop := (((mst_configuration z1) < (4 : Int32) → (post ((mst_configuration z1) + (1 : Int32)) (mst_s_executed (mst_s_membership (mst_s_configuration z1 ((mst_configuration z1) + (1 : Int32))) x1) (0 : Int32)))) ∧ (¬ (mst_configuration z1) < (4 : Int32) → (post (-1 : Int32) z1)))
abbrev rm_St_seal : Room := { frames := 0, cells := 0, slots := 0, locals := 0 }
def wp_St_act (z1 : MstT) (x1 : Int32) (x2 : Int32) (x3 : Int32) (post : Int32 → MstT → Prop) : Prop := (vp_in x2 4 ∧ (∀ v1 : Int32, v1 = ((mst_values z1) (x2).toNatClampNeg) → ((x1 = (0 : Int32) → (post v1 z1)) ∧ (¬ x1 = (0 : Int32) → ((x1 = (1 : Int32) → (vp_in x2 4 ∧ (post v1 (mst_s_values z1 (upd (mst_values z1) (x2).toNatClampNeg x3))))) ∧ (¬ x1 = (1 : Int32) → ((x1 = (2 : Int32) → (vp_in x2 4 ∧ (vp_in x2 4 ∧ (post ((upd (mst_values z1) (x2).toNatClampNeg (v1 + x3)) (x2).toNatClampNeg) (mst_s_values z1 (upd (mst_values z1) (x2).toNatClampNeg (v1 + x3))))))) ∧ (¬ x1 = (2 : Int32) → (wp_St_seal z1 x3 (fun (r5 : Int32) (u6 : MstT) => (post r5 u6)))))))))))
abbrev rm_St_act : Room := { frames := 1, cells := 0, slots := 0, locals := 21 }
def wp_St_execute (z1 : MstT) (z2 : MbkT) (x1 : Int32) (post : MstT → MbkT → Prop) : Prop := (wp_Bk_has z2 x1 (fun (r1 : Int32) (u2 : MbkT) => ((r1 = (0 : Int32) → (post (mst_s_executed z1 ((mst_executed z1) + (1 : Int32))) u2)) ∧ (¬ r1 = (0 : Int32) → (wp_St_isDone (mst_s_executed z1 ((mst_executed z1) + (1 : Int32))) x1 (fun (r4 : Int32) (u5 : MstT) => ((r4 = (0 : Int32) → (vp_in x1 31 ∧ (vp_in x1 31 ∧ (vp_in x1 31 ∧ (wp_St_act u5 ((mbk_kinds u2) (x1).toNatClampNeg) ((mbk_keys u2) (x1).toNatClampNeg) ((mbk_numbers u2) (x1).toNatClampNeg) (fun (r7 : Int32) (u8 : MstT) => (vp_in x1 31 ∧ (post (mst_s_doneBits (mst_s_answers u8 (upd (mst_answers u8) (x1).toNatClampNeg r7)) ((mst_doneBits u8) ||| ((1 : Int32) <<< (x1 &&& 31)))) u2)))))))) ∧ (¬ r4 = (0 : Int32) → (post u5 u2)))))))))
abbrev rm_St_execute : Room := { frames := 2, cells := 0, slots := 0, locals := 45 }
set_option maxHeartbeats 4000000 in
set_option maxRecDepth 100000 in
theorem c_St_isDone (l : Launch) (D : va_G) (cI cN cZ : ClassId) (a1 : Nat → Nat) (z1 : MstT) (x1 : Int32) (post : Int32 → MstT → Prop) (hw : wp_St_isDone z1 x1 post) : km_I l y_St_isDone (.code y_St_isDone b_St_isDone 2 (some .boolean) :: kmW) rm_St_isDone D kmC (kmT cI cN cZ) kmF kmM [.ref (a1 0), .int x1] (mstW cI cN cZ a1 z1) (fun (r : Int32) (u : MstT) => post r u) (fun (u : MstT) => (mstW cI cN cZ a1 u)) 0 0 := by
  refine km_startI (cc := b_St_isDone) (maxL := 2) (ret := (some .boolean)) (by decide) rfl (Nat.le_of_ble_eq_true rfl) ?_
  intro p e s m below meth c A ls hE hA hK hP hD hS hl
  obtain ⟨hx, hb, hr, hml, hown, hts0, hlk, hnm⟩ := id hE
  have hts : ∀ w ∈ kmW, w.before ([.ref (a1 0), .int x1] : List Value).toArray s = true := fun w h => hts0 w (List.mem_cons_of_mem _ h)
  have hP : va_P D kmC (mstW cI cN cZ a1 z1) s.heap := hP
  have hl : lv_has ls 2 [(0, .ref (a1 0)), (1, .int x1)] := hl
  unfold wp_St_isDone at hw
  refine lv_aload_n hx hb d_St_isDone_0 rfl (lv_at hl 0 rfl) ?_
  refine va_get (D := D) (ci := 4) (v := .int (mst_doneBits z1)) (C := R_St) (T := F_St) (N := 6) hx hb hts iw_St hown hK.1 hP 0 rfl rfl 4 (by decide) (hts _ mw_43) (fun _ h => h) rfl d_St_isDone_1 ?_
  refine lv_iload_n hx hb d_St_isDone_4 rfl (lv_at hl 1 rfl) ?_
  refine lv_ishr hx hb d_St_isDone_5 ?_
  refine lv_iconst (v := (1 : Int32)) hx hb d_St_isDone_6 (by decide) ?_
  refine lv_iand hx hb d_St_isDone_7 ?_
  refine lv_if_eq (tgt := 15) hx hb d_St_isDone_8 (by first | rfl | decide) (fun h1 => ?_) (fun h1 => ?_)
  · have hw := hw.1 h1
    refine lv_iconst (v := (0 : Int32)) hx hb d_St_isDone_15 (by decide) ?_
    exact W.zret (ty := .boolean) (v := (0 : Int32)) hx hb hr (by decide) (fun t ht hW => ⟨⟨(0 : Int32), z1, rfl, hw, by rw [ht]; exact hP, hD⟩, hS.F ht⟩) hS.2.2 d_St_isDone_16
  · have hw := hw.2 h1
    refine lv_iconst (v := (1 : Int32)) hx hb d_St_isDone_11 (by decide) ?_
    refine lv_goto (tgt := 16) hx hb d_St_isDone_12 (by first | rfl | decide) ?_
    exact W.zret (ty := .boolean) (v := (1 : Int32)) hx hb hr (by decide) (fun t ht hW => ⟨⟨(1 : Int32), z1, rfl, hw, by rw [ht]; exact hP, hD⟩, hS.F ht⟩) hS.2.2 d_St_isDone_16
set_option maxHeartbeats 4000000 in
set_option maxRecDepth 100000 in
theorem c_St_hasMember (l : Launch) (D : va_G) (cI cN cZ : ClassId) (a1 : Nat → Nat) (z1 : MstT) (x1 : Int32) (post : Int32 → MstT → Prop) (hw : wp_St_hasMember z1 x1 post) : km_I l y_St_hasMember (.code y_St_hasMember b_St_hasMember 2 (some .boolean) :: kmW) rm_St_hasMember D kmC (kmT cI cN cZ) kmF kmM [.ref (a1 0), .int x1] (mstW cI cN cZ a1 z1) (fun (r : Int32) (u : MstT) => post r u) (fun (u : MstT) => (mstW cI cN cZ a1 u)) 0 0 := by
  refine km_startI (cc := b_St_hasMember) (maxL := 2) (ret := (some .boolean)) (by decide) rfl (Nat.le_of_ble_eq_true rfl) ?_
  intro p e s m below meth c A ls hE hA hK hP hD hS hl
  obtain ⟨hx, hb, hr, hml, hown, hts0, hlk, hnm⟩ := id hE
  have hts : ∀ w ∈ kmW, w.before ([.ref (a1 0), .int x1] : List Value).toArray s = true := fun w h => hts0 w (List.mem_cons_of_mem _ h)
  have hP : va_P D kmC (mstW cI cN cZ a1 z1) s.heap := hP
  have hl : lv_has ls 2 [(0, .ref (a1 0)), (1, .int x1)] := hl
  unfold wp_St_hasMember at hw
  refine lv_aload_n hx hb d_St_hasMember_0 rfl (lv_at hl 0 rfl) ?_
  refine va_get (D := D) (ci := 4) (v := .int (mst_membership z1)) (C := R_St) (T := F_St) (N := 6) hx hb hts iw_St hown hK.1 hP 0 rfl rfl 1 (by decide) (hts _ mw_36) (fun _ h => h) rfl d_St_hasMember_1 ?_
  refine lv_iload_n hx hb d_St_hasMember_4 rfl (lv_at hl 1 rfl) ?_
  refine lv_ishr hx hb d_St_hasMember_5 ?_
  refine lv_iconst (v := (1 : Int32)) hx hb d_St_hasMember_6 (by decide) ?_
  refine lv_iand hx hb d_St_hasMember_7 ?_
  refine lv_if_eq (tgt := 15) hx hb d_St_hasMember_8 (by first | rfl | decide) (fun h1 => ?_) (fun h1 => ?_)
  · have hw := hw.1 h1
    refine lv_iconst (v := (0 : Int32)) hx hb d_St_hasMember_15 (by decide) ?_
    exact W.zret (ty := .boolean) (v := (0 : Int32)) hx hb hr (by decide) (fun t ht hW => ⟨⟨(0 : Int32), z1, rfl, hw, by rw [ht]; exact hP, hD⟩, hS.F ht⟩) hS.2.2 d_St_hasMember_16
  · have hw := hw.2 h1
    refine lv_iconst (v := (1 : Int32)) hx hb d_St_hasMember_11 (by decide) ?_
    refine lv_goto (tgt := 16) hx hb d_St_hasMember_12 (by first | rfl | decide) ?_
    exact W.zret (ty := .boolean) (v := (1 : Int32)) hx hb hr (by decide) (fun t ht hW => ⟨⟨(1 : Int32), z1, rfl, hw, by rw [ht]; exact hP, hD⟩, hS.F ht⟩) hS.2.2 d_St_hasMember_16
set_option maxHeartbeats 4000000 in
set_option maxRecDepth 100000 in
theorem c_St_isMajority (l : Launch) (D : va_G) (cI cN cZ : ClassId) (a1 : Nat → Nat) (z1 : MstT) (x1 : Int32) (post : Int32 → MstT → Prop) (hw : wp_St_isMajority z1 x1 post) : km_I l y_St_isMajority (.code y_St_isMajority b_St_isMajority 2 (some .boolean) :: kmW) rm_St_isMajority D kmC (kmT cI cN cZ) kmF kmM [.ref (a1 0), .int x1] (mstW cI cN cZ a1 z1) (fun (r : Int32) (u : MstT) => post r u) (fun (u : MstT) => (mstW cI cN cZ a1 u)) 0 0 := by
  refine km_startI (cc := b_St_isMajority) (maxL := 2) (ret := (some .boolean)) (by decide) rfl (Nat.le_of_ble_eq_true rfl) ?_
  intro p e s m below meth c A ls hE hA hK hP hD hS hl
  obtain ⟨hx, hb, hr, hml, hown, hts0, hlk, hnm⟩ := id hE
  have hts : ∀ w ∈ kmW, w.before ([.ref (a1 0), .int x1] : List Value).toArray s = true := fun w h => hts0 w (List.mem_cons_of_mem _ h)
  have hP : va_P D kmC (mstW cI cN cZ a1 z1) s.heap := hP
  have hl : lv_has ls 2 [(0, .ref (a1 0)), (1, .int x1)] := hl
  unfold wp_St_isMajority at hw
  refine lv_iconst (v := (2 : Int32)) hx hb d_St_isMajority_0 (by decide) ?_
  refine lv_iload_n hx hb d_St_isMajority_1 rfl (lv_at hl 1 rfl) ?_
  refine lv_aload_n hx hb d_St_isMajority_2 rfl (lv_at hl 0 rfl) ?_
  refine va_get (D := D) (ci := 4) (v := .int (mst_membership z1)) (C := R_St) (T := F_St) (N := 6) hx hb hts iw_St hown hK.1 hP 0 rfl rfl 1 (by decide) (hts _ mw_36) (fun _ h => h) rfl d_St_isMajority_3 ?_
  refine lv_iand hx hb d_St_isMajority_6 ?_
  refine km_ci (wr := [(a1 0, .inr (4, [.int (mst_configuration z1), .int (mst_membership z1), .int (mst_executed z1), .ref (a1 1), .int (mst_doneBits z1), .ref (a1 2)])), (a1 1, .inl (cI, 4, .inl (mst_values z1))), (a1 2, .inl (cI, 31, .inl (mst_answers z1)))]) (km_rS (n := 1) hE kmG (c_Ji_bitCount l D cI cN cZ (x1 &&& (mst_membership z1)) _ hw) mw_206 mw_323 mw_205 mw_9 (by decide) ⟨rfl, rfl, ⟨by decide, by decide⟩, by decide, by decide⟩ hK (km_cut hP [] rfl) (hD.sub [] (by decide) rfl) rfl hl.1 rfl (Nat.le_of_ble_eq_true rfl) d_St_isMajority_7) hP hD hS hA [] [0, 1, 2] rfl rfl (by decide) (by decide) (fun r1 _ H locs hw hP hD hS => ?_)
  have hP := hP.sub (ws' := (mstW cI cN cZ a1 z1)) [0, 1, 2] rfl
  have hD := hD.sub (ws' := (mstW cI cN cZ a1 z1)) [0, 1, 2] (by decide) rfl
  refine lv_imul hx hb d_St_isMajority_10 ?_
  refine lv_aload_n hx hb d_St_isMajority_11 rfl (lv_at hl 0 rfl) ?_
  refine va_get (D := D) (ci := 4) (v := .int (mst_membership z1)) (C := R_St) (T := F_St) (N := 6) hx hb hts iw_St hown hK.1 hP 0 rfl rfl 1 (by decide) (hts _ mw_36) (fun _ h => h) rfl d_St_isMajority_12 ?_
  refine km_ci (wr := [(a1 0, .inr (4, [.int (mst_configuration z1), .int (mst_membership z1), .int (mst_executed z1), .ref (a1 1), .int (mst_doneBits z1), .ref (a1 2)])), (a1 1, .inl (cI, 4, .inl (mst_values z1))), (a1 2, .inl (cI, 31, .inl (mst_answers z1)))]) (km_rS (n := 1) hE kmG (c_Ji_bitCount l D cI cN cZ (mst_membership z1) _ hw) mw_206 mw_323 mw_205 mw_9 (by decide) ⟨rfl, rfl, ⟨by decide, by decide⟩, by decide, by decide⟩ hK (km_cut hP [] rfl) (hD.sub [] (by decide) rfl) rfl hl.1 rfl (Nat.le_of_ble_eq_true rfl) d_St_isMajority_15) hP hD hS hA [] [0, 1, 2] rfl rfl (by decide) (by decide) (fun r2 _ H locs hw hP hD hS => ?_)
  have hP := hP.sub (ws' := (mstW cI cN cZ a1 z1)) [0, 1, 2] rfl
  have hD := hD.sub (ws' := (mstW cI cN cZ a1 z1)) [0, 1, 2] (by decide) rfl
  refine lv_icmp_le (tgt := 25) hx hb d_St_isMajority_18 (by first | rfl | decide) (fun h3 => ?_) (fun h3 => ?_)
  · have hw := hw.1 h3
    refine lv_iconst (v := (0 : Int32)) hx hb d_St_isMajority_25 (by decide) ?_
    exact W.zret (ty := .boolean) (v := (0 : Int32)) hx hb hr (by decide) (fun t ht hW => ⟨⟨(0 : Int32), z1, rfl, hw, by rw [ht]; exact hP, hD⟩, hS.F ht⟩) hS.2.2 d_St_isMajority_26
  · have hw := hw.2 h3
    refine lv_iconst (v := (1 : Int32)) hx hb d_St_isMajority_21 (by decide) ?_
    refine lv_goto (tgt := 26) hx hb d_St_isMajority_22 (by first | rfl | decide) ?_
    exact W.zret (ty := .boolean) (v := (1 : Int32)) hx hb hr (by decide) (fun t ht hW => ⟨⟨(1 : Int32), z1, rfl, hw, by rw [ht]; exact hP, hD⟩, hS.F ht⟩) hS.2.2 d_St_isMajority_26
set_option maxHeartbeats 4000000 in
set_option maxRecDepth 100000 in
theorem c_St_isLaterThan (l : Launch) (D : va_G) (cI cN cZ : ClassId) (a1 : Nat → Nat) (a2 : Nat → Nat) (z1 : MstT) (z2 : MstT) (post : Int32 → MstT → MstT → Prop) (hw : wp_St_isLaterThan z1 z2 post) : km_I l y_St_isLaterThan (.code y_St_isLaterThan b_St_isLaterThan 2 (some .boolean) :: kmW) rm_St_isLaterThan D kmC (kmT cI cN cZ) kmF kmM [.ref (a1 0), .ref (a2 0)] (mstW cI cN cZ a1 z1 ++ mstW cI cN cZ a2 z2) (fun (r : Int32) (u : MstT × MstT) => post r u.1 u.2) (fun (u : MstT × MstT) => (mstW cI cN cZ a1 u.1 ++ mstW cI cN cZ a2 u.2)) 0 0 := by
  refine km_startI (cc := b_St_isLaterThan) (maxL := 2) (ret := (some .boolean)) (by decide) rfl (Nat.le_of_ble_eq_true rfl) ?_
  intro p e s m below meth c A ls hE hA hK hP hD hS hl
  obtain ⟨hx, hb, hr, hml, hown, hts0, hlk, hnm⟩ := id hE
  have hts : ∀ w ∈ kmW, w.before ([.ref (a1 0), .ref (a2 0)] : List Value).toArray s = true := fun w h => hts0 w (List.mem_cons_of_mem _ h)
  have hP : va_P D kmC (mstW cI cN cZ a1 z1 ++ mstW cI cN cZ a2 z2) s.heap := hP
  have hl : lv_has ls 2 [(0, .ref (a1 0)), (1, .ref (a2 0))] := hl
  unfold wp_St_isLaterThan at hw
  refine lv_aload_n hx hb d_St_isLaterThan_0 rfl (lv_at hl 0 rfl) ?_
  refine va_get (D := D) (ci := 4) (v := .int (mst_configuration z1)) (C := R_St) (T := F_St) (N := 6) hx hb hts iw_St hown hK.1 hP 0 rfl rfl 0 (by decide) (hts _ mw_33) (fun _ h => h) rfl d_St_isLaterThan_1 ?_
  refine lv_aload_n hx hb d_St_isLaterThan_4 rfl (lv_at hl 1 rfl) ?_
  refine va_get (D := D) (ci := 4) (v := .int (mst_configuration z2)) (C := R_St) (T := F_St) (N := 6) hx hb hts iw_St hown hK.1 hP 3 rfl rfl 0 (by decide) (hts _ mw_33) (fun _ h => h) rfl d_St_isLaterThan_5 ?_
  refine lv_icmp_eq (tgt := 28) hx hb d_St_isLaterThan_8 (by first | rfl | decide) (fun h1 => ?_) (fun h1 => ?_)
  · have hw := hw.1 h1
    refine lv_aload_n hx hb d_St_isLaterThan_28 rfl (lv_at hl 0 rfl) ?_
    refine va_get (D := D) (ci := 4) (v := .int (mst_executed z1)) (C := R_St) (T := F_St) (N := 6) hx hb hts iw_St hown hK.1 hP 0 rfl rfl 2 (by decide) (hts _ mw_38) (fun _ h => h) rfl d_St_isLaterThan_29 ?_
    refine lv_aload_n hx hb d_St_isLaterThan_32 rfl (lv_at hl 1 rfl) ?_
    refine va_get (D := D) (ci := 4) (v := .int (mst_executed z2)) (C := R_St) (T := F_St) (N := 6) hx hb hts iw_St hown hK.1 hP 3 rfl rfl 2 (by decide) (hts _ mw_38) (fun _ h => h) rfl d_St_isLaterThan_33 ?_
    refine lv_icmp_le (tgt := 43) hx hb d_St_isLaterThan_36 (by first | rfl | decide) (fun h2 => ?_) (fun h2 => ?_)
    · have hw := hw.1 h2
      refine lv_iconst (v := (0 : Int32)) hx hb d_St_isLaterThan_43 (by decide) ?_
      exact W.zret (ty := .boolean) (v := (0 : Int32)) hx hb hr (by decide) (fun t ht hW => ⟨⟨(0 : Int32), (z1, z2), rfl, hw, by rw [ht]; exact hP, hD⟩, hS.F ht⟩) hS.2.2 d_St_isLaterThan_44
    · have hw := hw.2 h2
      refine lv_iconst (v := (1 : Int32)) hx hb d_St_isLaterThan_39 (by decide) ?_
      refine lv_goto (tgt := 44) hx hb d_St_isLaterThan_40 (by first | rfl | decide) ?_
      exact W.zret (ty := .boolean) (v := (1 : Int32)) hx hb hr (by decide) (fun t ht hW => ⟨⟨(1 : Int32), (z1, z2), rfl, hw, by rw [ht]; exact hP, hD⟩, hS.F ht⟩) hS.2.2 d_St_isLaterThan_44
  · have hw := hw.2 h1
    refine lv_aload_n hx hb d_St_isLaterThan_11 rfl (lv_at hl 0 rfl) ?_
    refine va_get (D := D) (ci := 4) (v := .int (mst_configuration z1)) (C := R_St) (T := F_St) (N := 6) hx hb hts iw_St hown hK.1 hP 0 rfl rfl 0 (by decide) (hts _ mw_33) (fun _ h => h) rfl d_St_isLaterThan_12 ?_
    refine lv_aload_n hx hb d_St_isLaterThan_15 rfl (lv_at hl 1 rfl) ?_
    refine va_get (D := D) (ci := 4) (v := .int (mst_configuration z2)) (C := R_St) (T := F_St) (N := 6) hx hb hts iw_St hown hK.1 hP 3 rfl rfl 0 (by decide) (hts _ mw_33) (fun _ h => h) rfl d_St_isLaterThan_16 ?_
    refine lv_icmp_le (tgt := 26) hx hb d_St_isLaterThan_19 (by first | rfl | decide) (fun h3 => ?_) (fun h3 => ?_)
    · have hw := hw.1 h3
      refine lv_iconst (v := (0 : Int32)) hx hb d_St_isLaterThan_26 (by decide) ?_
      exact W.zret (ty := .boolean) (v := (0 : Int32)) hx hb hr (by decide) (fun t ht hW => ⟨⟨(0 : Int32), (z1, z2), rfl, hw, by rw [ht]; exact hP, hD⟩, hS.F ht⟩) hS.2.2 d_St_isLaterThan_27
    · have hw := hw.2 h3
      refine lv_iconst (v := (1 : Int32)) hx hb d_St_isLaterThan_22 (by decide) ?_
      refine lv_goto (tgt := 27) hx hb d_St_isLaterThan_23 (by first | rfl | decide) ?_
      exact W.zret (ty := .boolean) (v := (1 : Int32)) hx hb hr (by decide) (fun t ht hW => ⟨⟨(1 : Int32), (z1, z2), rfl, hw, by rw [ht]; exact hP, hD⟩, hS.F ht⟩) hS.2.2 d_St_isLaterThan_27
set_option maxHeartbeats 4000000 in
set_option maxRecDepth 100000 in
theorem c_St_copyFrom (l : Launch) (D : va_G) (cI cN cZ : ClassId) (a1 : Nat → Nat) (a2 : Nat → Nat) (z1 : MstT) (z2 : MstT) (post : MstT → MstT → Prop) (hw : wp_St_copyFrom z1 z2 post) : km_V l y_St_copyFrom (.code y_St_copyFrom b_St_copyFrom 2 none :: kmW) rm_St_copyFrom D kmC (kmT cI cN cZ) kmF kmM [.ref (a1 0), .ref (a2 0)] (mstW cI cN cZ a1 z1 ++ mstW cI cN cZ a2 z2) (fun (u : MstT × MstT) => post u.1 u.2) (fun (u : MstT × MstT) => (mstW cI cN cZ a1 u.1 ++ mstW cI cN cZ a2 u.2)) 0 0 := by
  refine km_startV (cc := b_St_copyFrom) (maxL := 2) (ret := none) (by decide) rfl (Nat.le_of_ble_eq_true rfl) ?_
  intro p e s m below meth c A ls hE hA hK hP hD hS hl
  obtain ⟨hx, hb, hr, hml, hown, hts0, hlk, hnm⟩ := id hE
  have hts : ∀ w ∈ kmW, w.before ([.ref (a1 0), .ref (a2 0)] : List Value).toArray s = true := fun w h => hts0 w (List.mem_cons_of_mem _ h)
  have hP : va_P D kmC (mstW cI cN cZ a1 z1 ++ mstW cI cN cZ a2 z2) s.heap := hP
  have hl : lv_has ls 2 [(0, .ref (a1 0)), (1, .ref (a2 0))] := hl
  unfold wp_St_copyFrom at hw
  refine lv_aload_n hx hb d_St_copyFrom_0 rfl (lv_at hl 0 rfl) ?_
  refine lv_aload_n hx hb d_St_copyFrom_1 rfl (lv_at hl 1 rfl) ?_
  refine va_get (D := D) (ci := 4) (v := .int (mst_configuration z2)) (C := R_St) (T := F_St) (N := 6) hx hb hts iw_St hown hK.1 hP 3 rfl rfl 0 (by decide) (hts _ mw_33) (fun _ h => h) rfl d_St_copyFrom_2 ?_
  refine va_put (D := D) (ci := 4) (v := .int (mst_configuration z2)) (ty := .int) (C := R_St) (T := F_St) (N := 6) hx hb hts iw_St t_St t_St_ok n_St hown hK.1 hP hD hS 0 rfl rfl 0 (by decide) (hts _ mw_33) (fun _ h => h) rfl (t_St_ok 0 (by decide)) rfl rfl (Nat.le_of_ble_eq_true rfl) d_St_copyFrom_5 (fun H locs hP hD hS => ?_)
  have hP : va_P D kmC (mstW cI cN cZ a1 (mst_s_configuration z1 (mst_configuration z2)) ++ mstW cI cN cZ a2 z2) H := hP
  have hD : va_D A (mstW cI cN cZ a1 (mst_s_configuration z1 (mst_configuration z2)) ++ mstW cI cN cZ a2 z2) := hD
  refine lv_aload_n hx hb d_St_copyFrom_8 rfl (lv_at hl 0 rfl) ?_
  refine lv_aload_n hx hb d_St_copyFrom_9 rfl (lv_at hl 1 rfl) ?_
  refine va_get (D := D) (ci := 4) (v := .int (mst_membership z2)) (C := R_St) (T := F_St) (N := 6) hx hb hts iw_St hown hK.1 hP 3 rfl rfl 1 (by decide) (hts _ mw_36) (fun _ h => h) rfl d_St_copyFrom_10 ?_
  refine va_put (D := D) (ci := 4) (v := .int (mst_membership z2)) (ty := .int) (C := R_St) (T := F_St) (N := 6) hx hb hts iw_St t_St t_St_ok n_St hown hK.1 hP hD hS 0 rfl rfl 1 (by decide) (hts _ mw_36) (fun _ h => h) rfl (t_St_ok 1 (by decide)) rfl rfl (Nat.le_of_ble_eq_true rfl) d_St_copyFrom_13 (fun H locs hP hD hS => ?_)
  have hP : va_P D kmC (mstW cI cN cZ a1 (mst_s_membership (mst_s_configuration z1 (mst_configuration z2)) (mst_membership z2)) ++ mstW cI cN cZ a2 z2) H := hP
  have hD : va_D A (mstW cI cN cZ a1 (mst_s_membership (mst_s_configuration z1 (mst_configuration z2)) (mst_membership z2)) ++ mstW cI cN cZ a2 z2) := hD
  refine lv_aload_n hx hb d_St_copyFrom_16 rfl (lv_at hl 0 rfl) ?_
  refine lv_aload_n hx hb d_St_copyFrom_17 rfl (lv_at hl 1 rfl) ?_
  refine va_get (D := D) (ci := 4) (v := .int (mst_executed z2)) (C := R_St) (T := F_St) (N := 6) hx hb hts iw_St hown hK.1 hP 3 rfl rfl 2 (by decide) (hts _ mw_38) (fun _ h => h) rfl d_St_copyFrom_18 ?_
  refine va_put (D := D) (ci := 4) (v := .int (mst_executed z2)) (ty := .int) (C := R_St) (T := F_St) (N := 6) hx hb hts iw_St t_St t_St_ok n_St hown hK.1 hP hD hS 0 rfl rfl 2 (by decide) (hts _ mw_38) (fun _ h => h) rfl (t_St_ok 2 (by decide)) rfl rfl (Nat.le_of_ble_eq_true rfl) d_St_copyFrom_21 (fun H locs hP hD hS => ?_)
  have hP : va_P D kmC (mstW cI cN cZ a1 (mst_s_executed (mst_s_membership (mst_s_configuration z1 (mst_configuration z2)) (mst_membership z2)) (mst_executed z2)) ++ mstW cI cN cZ a2 z2) H := hP
  have hD : va_D A (mstW cI cN cZ a1 (mst_s_executed (mst_s_membership (mst_s_configuration z1 (mst_configuration z2)) (mst_membership z2)) (mst_executed z2)) ++ mstW cI cN cZ a2 z2) := hD
  refine lv_aload_n hx hb d_St_copyFrom_24 rfl (lv_at hl 0 rfl) ?_
  refine lv_aload_n hx hb d_St_copyFrom_25 rfl (lv_at hl 1 rfl) ?_
  refine va_get (D := D) (ci := 4) (v := .int (mst_doneBits z2)) (C := R_St) (T := F_St) (N := 6) hx hb hts iw_St hown hK.1 hP 3 rfl rfl 4 (by decide) (hts _ mw_43) (fun _ h => h) rfl d_St_copyFrom_26 ?_
  refine va_put (D := D) (ci := 4) (v := .int (mst_doneBits z2)) (ty := .int) (C := R_St) (T := F_St) (N := 6) hx hb hts iw_St t_St t_St_ok n_St hown hK.1 hP hD hS 0 rfl rfl 4 (by decide) (hts _ mw_43) (fun _ h => h) rfl (t_St_ok 4 (by decide)) rfl rfl (Nat.le_of_ble_eq_true rfl) d_St_copyFrom_29 (fun H locs hP hD hS => ?_)
  have hP : va_P D kmC (mstW cI cN cZ a1 (mst_s_doneBits (mst_s_executed (mst_s_membership (mst_s_configuration z1 (mst_configuration z2)) (mst_membership z2)) (mst_executed z2)) (mst_doneBits z2)) ++ mstW cI cN cZ a2 z2) H := hP
  have hD : va_D A (mstW cI cN cZ a1 (mst_s_doneBits (mst_s_executed (mst_s_membership (mst_s_configuration z1 (mst_configuration z2)) (mst_membership z2)) (mst_executed z2)) (mst_doneBits z2)) ++ mstW cI cN cZ a2 z2) := hD
  refine lv_aload_n hx hb d_St_copyFrom_32 rfl (lv_at hl 1 rfl) ?_
  refine va_get (D := D) (ci := 4) (v := .ref (a2 1)) (C := R_St) (T := F_St) (N := 6) hx hb hts iw_St hown hK.1 hP 3 rfl rfl 3 (by decide) (hts _ mw_41) (fun _ h => h) rfl d_St_copyFrom_33 ?_
  refine lv_iconst (v := (0 : Int32)) hx hb d_St_copyFrom_36 (by decide) ?_
  refine lv_aload_n hx hb d_St_copyFrom_37 rfl (lv_at hl 0 rfl) ?_
  refine va_get (D := D) (ci := 4) (v := .ref (a1 1)) (C := R_St) (T := F_St) (N := 6) hx hb hts iw_St hown hK.1 hP 0 rfl rfl 3 (by decide) (hts _ mw_41) (fun _ h => h) rfl d_St_copyFrom_38 ?_
  refine lv_iconst (v := (0 : Int32)) hx hb d_St_copyFrom_41 (by decide) ?_
  refine lv_iconst (v := (4 : Int32)) hx hb d_St_copyFrom_42 (by decide) ?_
  refine va_copyi (f := (mst_values z2)) (g := (mst_values z1)) (ty := .int) hx hb (hml.trans hl.1.symm) hown (hts _ mw_295) (hts _ mw_297) (hts _ mw_296) (hts _ mw_11) hK.1 hP hD hS 4 1 0 0 rfl rfl rfl rfl rfl (by decide) (by decide) (by decide) (by decide) (by decide) (fun _ _ => rfl) (by decide) (by decide) d_St_copyFrom_43 (fun H locs hP hD hS => ?_)
  have hP : va_P D kmC (mstW cI cN cZ a1 (mst_s_values (mst_s_doneBits (mst_s_executed (mst_s_membership (mst_s_configuration z1 (mst_configuration z2)) (mst_membership z2)) (mst_executed z2)) (mst_doneBits z2)) (va_cpy (mst_values z2) (mst_values z1) ((0 : Int32)).toNatClampNeg ((0 : Int32)).toNatClampNeg ((4 : Int32)).toNatClampNeg)) ++ mstW cI cN cZ a2 z2) H := hP
  have hD : va_D A (mstW cI cN cZ a1 (mst_s_values (mst_s_doneBits (mst_s_executed (mst_s_membership (mst_s_configuration z1 (mst_configuration z2)) (mst_membership z2)) (mst_executed z2)) (mst_doneBits z2)) (va_cpy (mst_values z2) (mst_values z1) ((0 : Int32)).toNatClampNeg ((0 : Int32)).toNatClampNeg ((4 : Int32)).toNatClampNeg)) ++ mstW cI cN cZ a2 z2) := hD
  refine lv_aload_n hx hb d_St_copyFrom_46 rfl (lv_at hl 1 rfl) ?_
  refine va_get (D := D) (ci := 4) (v := .ref (a2 2)) (C := R_St) (T := F_St) (N := 6) hx hb hts iw_St hown hK.1 hP 3 rfl rfl 5 (by decide) (hts _ mw_44) (fun _ h => h) rfl d_St_copyFrom_47 ?_
  refine lv_iconst (v := (0 : Int32)) hx hb d_St_copyFrom_50 (by decide) ?_
  refine lv_aload_n hx hb d_St_copyFrom_51 rfl (lv_at hl 0 rfl) ?_
  refine va_get (D := D) (ci := 4) (v := .ref (a1 2)) (C := R_St) (T := F_St) (N := 6) hx hb hts iw_St hown hK.1 hP 0 rfl rfl 5 (by decide) (hts _ mw_44) (fun _ h => h) rfl d_St_copyFrom_52 ?_
  refine lv_iconst (v := (0 : Int32)) hx hb d_St_copyFrom_55 (by decide) ?_
  refine lv_bipush (v := (31 : Int32)) hx hb d_St_copyFrom_56 (by decide) ?_
  refine va_copyi (f := (mst_answers z2)) (g := (mst_answers z1)) (ty := .int) hx hb (hml.trans hl.1.symm) hown (hts _ mw_295) (hts _ mw_297) (hts _ mw_296) (hts _ mw_11) hK.1 hP hD hS 5 2 0 0 rfl rfl rfl rfl rfl (by decide) (by decide) (by decide) (by decide) (by decide) (fun _ _ => rfl) (by decide) (by decide) d_St_copyFrom_58 (fun H locs hP hD hS => ?_)
  have hP : va_P D kmC (mstW cI cN cZ a1 (mst_s_answers (mst_s_values (mst_s_doneBits (mst_s_executed (mst_s_membership (mst_s_configuration z1 (mst_configuration z2)) (mst_membership z2)) (mst_executed z2)) (mst_doneBits z2)) (va_cpy (mst_values z2) (mst_values z1) ((0 : Int32)).toNatClampNeg ((0 : Int32)).toNatClampNeg ((4 : Int32)).toNatClampNeg)) (va_cpy (mst_answers z2) (mst_answers z1) ((0 : Int32)).toNatClampNeg ((0 : Int32)).toNatClampNeg ((31 : Int32)).toNatClampNeg)) ++ mstW cI cN cZ a2 z2) H := hP
  have hD : va_D A (mstW cI cN cZ a1 (mst_s_answers (mst_s_values (mst_s_doneBits (mst_s_executed (mst_s_membership (mst_s_configuration z1 (mst_configuration z2)) (mst_membership z2)) (mst_executed z2)) (mst_doneBits z2)) (va_cpy (mst_values z2) (mst_values z1) ((0 : Int32)).toNatClampNeg ((0 : Int32)).toNatClampNeg ((4 : Int32)).toNatClampNeg)) (va_cpy (mst_answers z2) (mst_answers z1) ((0 : Int32)).toNatClampNeg ((0 : Int32)).toNatClampNeg ((31 : Int32)).toNatClampNeg)) ++ mstW cI cN cZ a2 z2) := hD
  exact W.vret hx hb hr (fun t ht hW => ⟨⟨((mst_s_answers (mst_s_values (mst_s_doneBits (mst_s_executed (mst_s_membership (mst_s_configuration z1 (mst_configuration z2)) (mst_membership z2)) (mst_executed z2)) (mst_doneBits z2)) (va_cpy (mst_values z2) (mst_values z1) ((0 : Int32)).toNatClampNeg ((0 : Int32)).toNatClampNeg ((4 : Int32)).toNatClampNeg)) (va_cpy (mst_answers z2) (mst_answers z1) ((0 : Int32)).toNatClampNeg ((0 : Int32)).toNatClampNeg ((31 : Int32)).toNatClampNeg)), z2), rfl, hw, by rw [ht]; exact hP, hD⟩, hS.F ht⟩) hS.2.2 d_St_copyFrom_61
set_option maxHeartbeats 4000000 in
set_option maxRecDepth 100000 in
theorem c_St_seal (l : Launch) (D : va_G) (cI cN cZ : ClassId) (a1 : Nat → Nat) (z1 : MstT) (x1 : Int32) (post : Int32 → MstT → Prop) (hw : wp_St_seal z1 x1 post) : km_I l y_St_seal (.code y_St_seal b_St_seal 2 (some .int) :: kmW) rm_St_seal D kmC (kmT cI cN cZ) kmF kmM [.ref (a1 0), .int x1] (mstW cI cN cZ a1 z1) (fun (r : Int32) (u : MstT) => post r u) (fun (u : MstT) => (mstW cI cN cZ a1 u)) 0 0 := by
  refine km_startI (cc := b_St_seal) (maxL := 2) (ret := (some .int)) (by decide) rfl (Nat.le_of_ble_eq_true rfl) ?_
  intro p e s m below meth c A ls hE hA hK hP hD hS hl
  obtain ⟨hx, hb, hr, hml, hown, hts0, hlk, hnm⟩ := id hE
  have hts : ∀ w ∈ kmW, w.before ([.ref (a1 0), .int x1] : List Value).toArray s = true := fun w h => hts0 w (List.mem_cons_of_mem _ h)
  have hP : va_P D kmC (mstW cI cN cZ a1 z1) s.heap := hP
  have hl : lv_has ls 2 [(0, .ref (a1 0)), (1, .int x1)] := hl
  unfold wp_St_seal at hw
  refine lv_aload_n hx hb d_St_seal_0 rfl (lv_at hl 0 rfl) ?_
  refine va_get (D := D) (ci := 4) (v := .int (mst_configuration z1)) (C := R_St) (T := F_St) (N := 6) hx hb hts iw_St hown hK.1 hP 0 rfl rfl 0 (by decide) (hts _ mw_33) (fun _ h => h) rfl d_St_seal_1 ?_
  refine lv_iconst (v := (4 : Int32)) hx hb d_St_seal_4 (by decide) ?_
  refine lv_icmp_lt (tgt := 10) hx hb d_St_seal_5 (by first | rfl | decide) (fun h1 => ?_) (fun h1 => ?_)
  · have hw := hw.1 h1
    refine lv_aload_n hx hb d_St_seal_10 rfl (lv_at hl 0 rfl) ?_
    refine lv_dup hx hb d_St_seal_11 rfl ?_
    refine va_get (D := D) (ci := 4) (v := .int (mst_configuration z1)) (C := R_St) (T := F_St) (N := 6) hx hb hts iw_St hown hK.1 hP 0 rfl rfl 0 (by decide) (hts _ mw_33) (fun _ h => h) rfl d_St_seal_12 ?_
    refine lv_iconst (v := (1 : Int32)) hx hb d_St_seal_15 (by decide) ?_
    refine lv_iadd hx hb d_St_seal_16 ?_
    refine va_put (D := D) (ci := 4) (v := .int ((mst_configuration z1) + (1 : Int32))) (ty := .int) (C := R_St) (T := F_St) (N := 6) hx hb hts iw_St t_St t_St_ok n_St hown hK.1 hP hD hS 0 rfl rfl 0 (by decide) (hts _ mw_33) (fun _ h => h) rfl (t_St_ok 0 (by decide)) rfl rfl (Nat.le_of_ble_eq_true rfl) d_St_seal_17 (fun H locs hP hD hS => ?_)
    have hP : va_P D kmC (mstW cI cN cZ a1 (mst_s_configuration z1 ((mst_configuration z1) + (1 : Int32)))) H := hP
    have hD : va_D A (mstW cI cN cZ a1 (mst_s_configuration z1 ((mst_configuration z1) + (1 : Int32)))) := hD
    refine lv_aload_n hx hb d_St_seal_20 rfl (lv_at hl 0 rfl) ?_
    refine lv_iload_n hx hb d_St_seal_21 rfl (lv_at hl 1 rfl) ?_
    refine va_put (D := D) (ci := 4) (v := .int x1) (ty := .int) (C := R_St) (T := F_St) (N := 6) hx hb hts iw_St t_St t_St_ok n_St hown hK.1 hP hD hS 0 rfl rfl 1 (by decide) (hts _ mw_36) (fun _ h => h) rfl (t_St_ok 1 (by decide)) rfl rfl (Nat.le_of_ble_eq_true rfl) d_St_seal_22 (fun H locs hP hD hS => ?_)
    have hP : va_P D kmC (mstW cI cN cZ a1 (mst_s_membership (mst_s_configuration z1 ((mst_configuration z1) + (1 : Int32))) x1)) H := hP
    have hD : va_D A (mstW cI cN cZ a1 (mst_s_membership (mst_s_configuration z1 ((mst_configuration z1) + (1 : Int32))) x1)) := hD
    refine lv_aload_n hx hb d_St_seal_25 rfl (lv_at hl 0 rfl) ?_
    refine lv_iconst (v := (0 : Int32)) hx hb d_St_seal_26 (by decide) ?_
    refine va_put (D := D) (ci := 4) (v := .int (0 : Int32)) (ty := .int) (C := R_St) (T := F_St) (N := 6) hx hb hts iw_St t_St t_St_ok n_St hown hK.1 hP hD hS 0 rfl rfl 2 (by decide) (hts _ mw_38) (fun _ h => h) rfl (t_St_ok 2 (by decide)) rfl rfl (Nat.le_of_ble_eq_true rfl) d_St_seal_27 (fun H locs hP hD hS => ?_)
    have hP : va_P D kmC (mstW cI cN cZ a1 (mst_s_executed (mst_s_membership (mst_s_configuration z1 ((mst_configuration z1) + (1 : Int32))) x1) (0 : Int32))) H := hP
    have hD : va_D A (mstW cI cN cZ a1 (mst_s_executed (mst_s_membership (mst_s_configuration z1 ((mst_configuration z1) + (1 : Int32))) x1) (0 : Int32))) := hD
    refine lv_aload_n hx hb d_St_seal_30 rfl (lv_at hl 0 rfl) ?_
    refine va_get (D := D) (ci := 4) (v := .int ((mst_configuration z1) + (1 : Int32))) (C := R_St) (T := F_St) (N := 6) hx hb hts iw_St hown hK.1 hP 0 rfl rfl 0 (by decide) (hts _ mw_33) (fun _ h => h) rfl d_St_seal_31 ?_
    exact W.iret (v := ((mst_configuration z1) + (1 : Int32))) hx hb hr (fun t ht hW => ⟨⟨((mst_configuration z1) + (1 : Int32)), (mst_s_executed (mst_s_membership (mst_s_configuration z1 ((mst_configuration z1) + (1 : Int32))) x1) (0 : Int32)), rfl, hw, by rw [ht]; exact hP, hD⟩, hS.F ht⟩) hS.2.2 d_St_seal_34
  · have hw := hw.2 h1
    refine lv_iconst (v := (-1 : Int32)) hx hb d_St_seal_8 (by decide) ?_
    exact W.iret (v := (-1 : Int32)) hx hb hr (fun t ht hW => ⟨⟨(-1 : Int32), z1, rfl, hw, by rw [ht]; exact hP, hD⟩, hS.F ht⟩) hS.2.2 d_St_seal_9
set_option maxHeartbeats 4000000 in
set_option maxRecDepth 100000 in
theorem c_St_act (l : Launch) (D : va_G) (cI cN cZ : ClassId) (a1 : Nat → Nat) (z1 : MstT) (x1 : Int32) (x2 : Int32) (x3 : Int32) (post : Int32 → MstT → Prop) (hw : wp_St_act z1 x1 x2 x3 post) : km_I l y_St_act (.code y_St_act b_St_act 5 (some .int) :: kmW) rm_St_act D kmC (kmT cI cN cZ) kmF kmM [.ref (a1 0), .int x1, .int x2, .int x3] (mstW cI cN cZ a1 z1) (fun (r : Int32) (u : MstT) => post r u) (fun (u : MstT) => (mstW cI cN cZ a1 u)) 0 0 := by
  refine km_startI (cc := b_St_act) (maxL := 5) (ret := (some .int)) (by decide) rfl (Nat.le_of_ble_eq_true rfl) ?_
  intro p e s m below meth c A ls hE hA hK hP hD hS hl
  obtain ⟨hx, hb, hr, hml, hown, hts0, hlk, hnm⟩ := id hE
  have hts : ∀ w ∈ kmW, w.before ([.ref (a1 0), .int x1, .int x2, .int x3] : List Value).toArray s = true := fun w h => hts0 w (List.mem_cons_of_mem _ h)
  have hP : va_P D kmC (mstW cI cN cZ a1 z1) s.heap := hP
  have hl : lv_has ls 5 [(0, .ref (a1 0)), (1, .int x1), (2, .int x2), (3, .int x3)] := hl
  unfold wp_St_act at hw
  refine lv_aload_n hx hb d_St_act_0 rfl (lv_at hl 0 rfl) ?_
  refine va_get (D := D) (ci := 4) (v := .ref (a1 1)) (C := R_St) (T := F_St) (N := 6) hx hb hts iw_St hown hK.1 hP 0 rfl rfl 3 (by decide) (hts _ mw_41) (fun _ h => h) rfl d_St_act_1 ?_
  refine lv_iload_n hx hb d_St_act_4 rfl (lv_at hl 2 rfl) ?_
  obtain ⟨hin, hw⟩ := hw
  refine va_iald (f := (mst_values z1)) hx hb hK.1 hP 1 0 rfl rfl hin d_St_act_5 ?_
  refine lv_topi (fun v1 ev1 => ?_)
  have hw := hw v1 ev1
  refine lv_istore (lv' := [(4, .int v1), (0, .ref (a1 0)), (1, .int x1), (2, .int x2), (3, .int x3)]) hx hb d_St_act_6 hl (by decide) rfl (fun ls hl => ?_)
  refine lv_iload_n hx hb d_St_act_8 rfl (lv_at hl 2 rfl) ?_
  by_cases h2 : x1 = (0 : Int32)
  · have hw := hw.1 h2
    refine lv_tableIn (tgt := 36) (off := 27) hx hb d_St_act_9 (by rw [h2]; decide) (by rw [h2]; decide) (by rw [h2]; rfl) (by first | rfl | decide) ?_
    refine lv_iload hx hb d_St_act_36 (lv_at hl 0 rfl) ?_
    exact W.iret (v := v1) hx hb hr (fun t ht hW => ⟨⟨v1, z1, rfl, hw, by rw [ht]; exact hP, hD⟩, hS.F ht⟩) hS.2.2 d_St_act_38
  have hw := hw.2 h2
  by_cases h3 : x1 = (1 : Int32)
  · have hw := hw.1 h3
    refine lv_tableIn (tgt := 39) (off := 30) hx hb d_St_act_9 (by rw [h3]; decide) (by rw [h3]; decide) (by rw [h3]; rfl) (by first | rfl | decide) ?_
    refine lv_aload_n hx hb d_St_act_39 rfl (lv_at hl 1 rfl) ?_
    refine va_get (D := D) (ci := 4) (v := .ref (a1 1)) (C := R_St) (T := F_St) (N := 6) hx hb hts iw_St hown hK.1 hP 0 rfl rfl 3 (by decide) (hts _ mw_41) (fun _ h => h) rfl d_St_act_40 ?_
    refine lv_iload_n hx hb d_St_act_43 rfl (lv_at hl 3 rfl) ?_
    refine lv_iload_n hx hb d_St_act_44 rfl (lv_at hl 4 rfl) ?_
    obtain ⟨hin, hw⟩ := hw
    refine va_iast (f := (mst_values z1)) hx hb hK.1 hP hD hS 1 0 rfl rfl hin d_St_act_45 (fun H locs hP hD hS => ?_)
    have hP : va_P D kmC (mstW cI cN cZ a1 (mst_s_values z1 (upd (mst_values z1) (x2).toNatClampNeg x3))) H := hP
    have hD : va_D A (mstW cI cN cZ a1 (mst_s_values z1 (upd (mst_values z1) (x2).toNatClampNeg x3))) := hD
    refine lv_iload hx hb d_St_act_46 (lv_at hl 0 rfl) ?_
    exact W.iret (v := v1) hx hb hr (fun t ht hW => ⟨⟨v1, (mst_s_values z1 (upd (mst_values z1) (x2).toNatClampNeg x3)), rfl, hw, by rw [ht]; exact hP, hD⟩, hS.F ht⟩) hS.2.2 d_St_act_48
  have hw := hw.2 h3
  by_cases h4 : x1 = (2 : Int32)
  · have hw := hw.1 h4
    refine lv_tableIn (tgt := 49) (off := 40) hx hb d_St_act_9 (by rw [h4]; decide) (by rw [h4]; decide) (by rw [h4]; rfl) (by first | rfl | decide) ?_
    refine lv_aload_n hx hb d_St_act_49 rfl (lv_at hl 1 rfl) ?_
    refine va_get (D := D) (ci := 4) (v := .ref (a1 1)) (C := R_St) (T := F_St) (N := 6) hx hb hts iw_St hown hK.1 hP 0 rfl rfl 3 (by decide) (hts _ mw_41) (fun _ h => h) rfl d_St_act_50 ?_
    refine lv_iload_n hx hb d_St_act_53 rfl (lv_at hl 3 rfl) ?_
    refine lv_iload hx hb d_St_act_54 (lv_at hl 0 rfl) ?_
    refine lv_iload_n hx hb d_St_act_56 rfl (lv_at hl 4 rfl) ?_
    refine lv_iadd hx hb d_St_act_57 ?_
    obtain ⟨hin, hw⟩ := hw
    refine va_iast (f := (mst_values z1)) hx hb hK.1 hP hD hS 1 0 rfl rfl hin d_St_act_58 (fun H locs hP hD hS => ?_)
    have hP : va_P D kmC (mstW cI cN cZ a1 (mst_s_values z1 (upd (mst_values z1) (x2).toNatClampNeg (v1 + x3)))) H := hP
    have hD : va_D A (mstW cI cN cZ a1 (mst_s_values z1 (upd (mst_values z1) (x2).toNatClampNeg (v1 + x3)))) := hD
    refine lv_aload_n hx hb d_St_act_59 rfl (lv_at hl 1 rfl) ?_
    refine va_get (D := D) (ci := 4) (v := .ref (a1 1)) (C := R_St) (T := F_St) (N := 6) hx hb hts iw_St hown hK.1 hP 0 rfl rfl 3 (by decide) (hts _ mw_41) (fun _ h => h) rfl d_St_act_60 ?_
    refine lv_iload_n hx hb d_St_act_63 rfl (lv_at hl 3 rfl) ?_
    obtain ⟨hin, hw⟩ := hw
    refine va_iald (f := (upd (mst_values z1) (x2).toNatClampNeg (v1 + x3))) hx hb hK.1 hP 1 0 rfl rfl hin d_St_act_64 ?_
    exact W.iret (v := ((upd (mst_values z1) (x2).toNatClampNeg (v1 + x3)) (x2).toNatClampNeg)) hx hb hr (fun t ht hW => ⟨⟨((upd (mst_values z1) (x2).toNatClampNeg (v1 + x3)) (x2).toNatClampNeg), (mst_s_values z1 (upd (mst_values z1) (x2).toNatClampNeg (v1 + x3))), rfl, hw, by rw [ht]; exact hP, hD⟩, hS.F ht⟩) hS.2.2 d_St_act_65
  have hw := hw.2 h4
  refine lv_tableOut (tgt := 66) hx hb d_St_act_9 (by have h2T := lv_neT (a := 0) h2 (by decide); have h3T := lv_neT (a := 1) h3 (by decide); have h4T := lv_neT (a := 2) h4 (by decide); omega) (by first | rfl | decide) ?_
  refine lv_aload_n hx hb d_St_act_66 rfl (lv_at hl 1 rfl) ?_
  refine lv_iload_n hx hb d_St_act_67 rfl (lv_at hl 4 rfl) ?_
  refine km_ci (wr := []) (km_rV (n := 1) hE kmG (c_St_seal l D cI cN cZ a1 z1 x3 _ hw) mw_359 mw_356 mw_358 mp_25 mw_3 (by decide) ⟨rfl, rfl, ⟨by decide, by decide⟩, by decide, by decide⟩ hK (km_cut hP [0, 1, 2] rfl) (hD.sub [0, 1, 2] (by decide) rfl) (ci := 4) rfl hP (q0 := 0) rfl rfl hl.1 rfl (Nat.le_of_ble_eq_true rfl) d_St_act_68) hP hD hS hA [0, 1, 2] [] rfl rfl (by decide) (by decide) (fun r5 u6 H locs hw hP hD hS => ?_)
  have hP : va_P D kmC (mstW cI cN cZ a1 u6) H := hP
  have hD : va_D A (mstW cI cN cZ a1 u6) := hD
  exact W.iret (v := r5) hx hb hr (fun t ht hW => ⟨⟨r5, u6, rfl, hw, by rw [ht]; exact hP, hD⟩, hS.F ht⟩) hS.2.2 d_St_act_71
set_option maxHeartbeats 4000000 in
set_option maxRecDepth 100000 in
theorem c_St_execute (l : Launch) (D : va_G) (cI cN cZ : ClassId) (a1 : Nat → Nat) (a2 : Nat → Nat) (z1 : MstT) (z2 : MbkT) (x1 : Int32) (post : MstT → MbkT → Prop) (hw : wp_St_execute z1 z2 x1 post) : km_V l y_St_execute (.code y_St_execute b_St_execute 3 none :: kmW) rm_St_execute D kmC (kmT cI cN cZ) kmF kmM [.ref (a1 0), .int x1, .ref (a2 0)] (mstW cI cN cZ a1 z1 ++ mbkW cI cN cZ a2 z2) (fun (u : MstT × MbkT) => post u.1 u.2) (fun (u : MstT × MbkT) => (mstW cI cN cZ a1 u.1 ++ mbkW cI cN cZ a2 u.2)) 0 0 := by
  refine km_startV (cc := b_St_execute) (maxL := 3) (ret := none) (by decide) rfl (Nat.le_of_ble_eq_true rfl) ?_
  intro p e s m below meth c A ls hE hA hK hP hD hS hl
  obtain ⟨hx, hb, hr, hml, hown, hts0, hlk, hnm⟩ := id hE
  have hts : ∀ w ∈ kmW, w.before ([.ref (a1 0), .int x1, .ref (a2 0)] : List Value).toArray s = true := fun w h => hts0 w (List.mem_cons_of_mem _ h)
  have hP : va_P D kmC (mstW cI cN cZ a1 z1 ++ mbkW cI cN cZ a2 z2) s.heap := hP
  have hl : lv_has ls 3 [(0, .ref (a1 0)), (1, .int x1), (2, .ref (a2 0))] := hl
  unfold wp_St_execute at hw
  refine lv_aload_n hx hb d_St_execute_0 rfl (lv_at hl 0 rfl) ?_
  refine lv_dup hx hb d_St_execute_1 rfl ?_
  refine va_get (D := D) (ci := 4) (v := .int (mst_executed z1)) (C := R_St) (T := F_St) (N := 6) hx hb hts iw_St hown hK.1 hP 0 rfl rfl 2 (by decide) (hts _ mw_38) (fun _ h => h) rfl d_St_execute_2 ?_
  refine lv_iconst (v := (1 : Int32)) hx hb d_St_execute_5 (by decide) ?_
  refine lv_iadd hx hb d_St_execute_6 ?_
  refine va_put (D := D) (ci := 4) (v := .int ((mst_executed z1) + (1 : Int32))) (ty := .int) (C := R_St) (T := F_St) (N := 6) hx hb hts iw_St t_St t_St_ok n_St hown hK.1 hP hD hS 0 rfl rfl 2 (by decide) (hts _ mw_38) (fun _ h => h) rfl (t_St_ok 2 (by decide)) rfl rfl (Nat.le_of_ble_eq_true rfl) d_St_execute_7 (fun H locs hP hD hS => ?_)
  have hP : va_P D kmC (mstW cI cN cZ a1 (mst_s_executed z1 ((mst_executed z1) + (1 : Int32))) ++ mbkW cI cN cZ a2 z2) H := hP
  have hD : va_D A (mstW cI cN cZ a1 (mst_s_executed z1 ((mst_executed z1) + (1 : Int32))) ++ mbkW cI cN cZ a2 z2) := hD
  refine lv_aload_n hx hb d_St_execute_10 rfl (lv_at hl 2 rfl) ?_
  refine lv_iload_n hx hb d_St_execute_11 rfl (lv_at hl 1 rfl) ?_
  refine km_ci (wr := [(a1 0, .inr (4, [.int (mst_configuration (mst_s_executed z1 ((mst_executed z1) + (1 : Int32)))), .int (mst_membership (mst_s_executed z1 ((mst_executed z1) + (1 : Int32)))), .int (mst_executed (mst_s_executed z1 ((mst_executed z1) + (1 : Int32)))), .ref (a1 1), .int (mst_doneBits (mst_s_executed z1 ((mst_executed z1) + (1 : Int32)))), .ref (a1 2)])), (a1 1, .inl (cI, 4, .inl (mst_values (mst_s_executed z1 ((mst_executed z1) + (1 : Int32)))))), (a1 2, .inl (cI, 31, .inl (mst_answers (mst_s_executed z1 ((mst_executed z1) + (1 : Int32))))))]) (km_rVN (n := 1) hE kmG (c_Bk_has l D cI cN cZ a2 z2 x1 _ hw) mw_225 (km_nM hK 30 rfl) mw_224 mp_2 mw_7 (by decide) ⟨rfl, rfl, ⟨by decide, by decide⟩, by decide, by decide⟩ hK (km_cut hP [3, 4, 5, 6] rfl) (hD.sub [3, 4, 5, 6] (by decide) rfl) (ci := 3) rfl hP (q0 := 3) rfl rfl hl.1 rfl (Nat.le_of_ble_eq_true rfl) d_St_execute_12) hP hD hS hA [3, 4, 5, 6] [0, 1, 2] rfl rfl (by decide) (by decide) (fun r1 u2 H locs hw hP hD hS => ?_)
  have hP : va_P D kmC (mstW cI cN cZ a1 (mst_s_executed z1 ((mst_executed z1) + (1 : Int32))) ++ mbkW cI cN cZ a2 u2) H := hP
  have hD : va_D A (mstW cI cN cZ a1 (mst_s_executed z1 ((mst_executed z1) + (1 : Int32))) ++ mbkW cI cN cZ a2 u2) := hD
  refine lv_if_eq (tgt := 66) hx hb d_St_execute_15 (by first | rfl | decide) (fun h3 => ?_) (fun h3 => ?_)
  · have hw := hw.1 h3
    exact W.vret hx hb hr (fun t ht hW => ⟨⟨((mst_s_executed z1 ((mst_executed z1) + (1 : Int32))), u2), rfl, hw, by rw [ht]; exact hP, hD⟩, hS.F ht⟩) hS.2.2 d_St_execute_66
  · have hw := hw.2 h3
    refine lv_aload_n hx hb d_St_execute_18 rfl (lv_at hl 0 rfl) ?_
    refine lv_iload_n hx hb d_St_execute_19 rfl (lv_at hl 1 rfl) ?_
    refine km_ci (wr := [(a2 0, .inr (3, [.ref (a2 1), .ref (a2 2), .ref (a2 3), .int (mbk_count u2)])), (a2 1, .inl (cI, 31, .inl (mbk_kinds u2))), (a2 2, .inl (cI, 31, .inl (mbk_keys u2))), (a2 3, .inl (cI, 31, .inl (mbk_numbers u2)))]) (km_rV (n := 1) hE kmG (c_St_isDone l D cI cN cZ a1 (mst_s_executed z1 ((mst_executed z1) + (1 : Int32))) x1 _ hw) mw_232 mw_351 mw_231 mp_3 mw_3 (by decide) ⟨rfl, rfl, ⟨by decide, by decide⟩, by decide, by decide⟩ hK (km_cut hP [0, 1, 2] rfl) (hD.sub [0, 1, 2] (by decide) rfl) (ci := 4) rfl hP (q0 := 0) rfl rfl hl.1 rfl (Nat.le_of_ble_eq_true rfl) d_St_execute_20) hP hD hS hA [0, 1, 2] [3, 4, 5, 6] rfl rfl (by decide) (by decide) (fun r4 u5 H locs hw hP hD hS => ?_)
    have hP := hP.sub (ws' := (mstW cI cN cZ a1 u5 ++ mbkW cI cN cZ a2 u2)) [4, 5, 6, 0, 1, 2, 3] rfl
    have hD := hD.sub (ws' := (mstW cI cN cZ a1 u5 ++ mbkW cI cN cZ a2 u2)) [4, 5, 6, 0, 1, 2, 3] (by decide) rfl
    refine lv_if_ne (tgt := 66) hx hb d_St_execute_23 (by first | rfl | decide) (fun h6 => ?_) (fun h6 => ?_)
    · have hw := hw.2 h6
      exact W.vret hx hb hr (fun t ht hW => ⟨⟨(u5, u2), rfl, hw, by rw [ht]; exact hP, hD⟩, hS.F ht⟩) hS.2.2 d_St_execute_66
    · have hw := hw.1 h6
      refine lv_aload_n hx hb d_St_execute_26 rfl (lv_at hl 0 rfl) ?_
      refine va_get (D := D) (ci := 4) (v := .ref (a1 2)) (C := R_St) (T := F_St) (N := 6) hx hb hts iw_St hown hK.1 hP 0 rfl rfl 5 (by decide) (hts _ mw_44) (fun _ h => h) rfl d_St_execute_27 ?_
      refine lv_iload_n hx hb d_St_execute_30 rfl (lv_at hl 1 rfl) ?_
      refine lv_aload_n hx hb d_St_execute_31 rfl (lv_at hl 0 rfl) ?_
      refine lv_aload_n hx hb d_St_execute_32 rfl (lv_at hl 2 rfl) ?_
      refine va_getN (D := D) (ci := 3) (v := .ref (a2 1)) (C := R_Bk) (T := F_Bk) (N := 4) hx hb hts iw_Bk hown hK.1 hP 3 rfl rfl 0 (by decide) (km_nF hK 28 rfl) (fun _ h => h) rfl d_St_execute_33 ?_
      refine lv_iload_n hx hb d_St_execute_36 rfl (lv_at hl 1 rfl) ?_
      obtain ⟨hin, hw⟩ := hw
      refine va_iald (f := (mbk_kinds u2)) hx hb hK.1 hP 4 0 rfl rfl hin d_St_execute_37 ?_
      refine lv_aload_n hx hb d_St_execute_38 rfl (lv_at hl 2 rfl) ?_
      refine va_getN (D := D) (ci := 3) (v := .ref (a2 2)) (C := R_Bk) (T := F_Bk) (N := 4) hx hb hts iw_Bk hown hK.1 hP 3 rfl rfl 1 (by decide) (km_nF hK 29 rfl) (fun _ h => h) rfl d_St_execute_39 ?_
      refine lv_iload_n hx hb d_St_execute_42 rfl (lv_at hl 1 rfl) ?_
      obtain ⟨hin, hw⟩ := hw
      refine va_iald (f := (mbk_keys u2)) hx hb hK.1 hP 5 0 rfl rfl hin d_St_execute_43 ?_
      refine lv_aload_n hx hb d_St_execute_44 rfl (lv_at hl 2 rfl) ?_
      refine va_getN (D := D) (ci := 3) (v := .ref (a2 3)) (C := R_Bk) (T := F_Bk) (N := 4) hx hb hts iw_Bk hown hK.1 hP 3 rfl rfl 2 (by decide) (km_nF hK 30 rfl) (fun _ h => h) rfl d_St_execute_45 ?_
      refine lv_iload_n hx hb d_St_execute_48 rfl (lv_at hl 1 rfl) ?_
      obtain ⟨hin, hw⟩ := hw
      refine va_iald (f := (mbk_numbers u2)) hx hb hK.1 hP 6 0 rfl rfl hin d_St_execute_49 ?_
      refine km_ci (wr := [(a2 0, .inr (3, [.ref (a2 1), .ref (a2 2), .ref (a2 3), .int (mbk_count u2)])), (a2 1, .inl (cI, 31, .inl (mbk_kinds u2))), (a2 2, .inl (cI, 31, .inl (mbk_keys u2))), (a2 3, .inl (cI, 31, .inl (mbk_numbers u2)))]) (km_rV (n := 3) hE kmG (c_St_act l D cI cN cZ a1 u5 ((mbk_kinds u2) (x1).toNatClampNeg) ((mbk_keys u2) (x1).toNatClampNeg) ((mbk_numbers u2) (x1).toNatClampNeg) _ hw) mw_355 mw_352 mw_354 mp_24 mw_3 (by decide) ⟨rfl, rfl, ⟨by decide, by decide⟩, by decide, by decide⟩ hK (km_cut hP [0, 1, 2] rfl) (hD.sub [0, 1, 2] (by decide) rfl) (ci := 4) rfl hP (q0 := 0) rfl rfl hl.1 rfl (Nat.le_of_ble_eq_true rfl) d_St_execute_50) hP hD hS hA [0, 1, 2] [3, 4, 5, 6] rfl rfl (by decide) (by decide) (fun r7 u8 H locs hw hP hD hS => ?_)
      have hP := hP.sub (ws' := (mstW cI cN cZ a1 u8 ++ mbkW cI cN cZ a2 u2)) [4, 5, 6, 0, 1, 2, 3] rfl
      have hD := hD.sub (ws' := (mstW cI cN cZ a1 u8 ++ mbkW cI cN cZ a2 u2)) [4, 5, 6, 0, 1, 2, 3] (by decide) rfl
      obtain ⟨hin, hw⟩ := hw
      refine va_iast (f := (mst_answers u8)) hx hb hK.1 hP hD hS 2 0 rfl rfl hin d_St_execute_53 (fun H locs hP hD hS => ?_)
      have hP : va_P D kmC (mstW cI cN cZ a1 (mst_s_answers u8 (upd (mst_answers u8) (x1).toNatClampNeg r7)) ++ mbkW cI cN cZ a2 u2) H := hP
      have hD : va_D A (mstW cI cN cZ a1 (mst_s_answers u8 (upd (mst_answers u8) (x1).toNatClampNeg r7)) ++ mbkW cI cN cZ a2 u2) := hD
      refine lv_aload_n hx hb d_St_execute_54 rfl (lv_at hl 0 rfl) ?_
      refine lv_dup hx hb d_St_execute_55 rfl ?_
      refine va_get (D := D) (ci := 4) (v := .int (mst_doneBits u8)) (C := R_St) (T := F_St) (N := 6) hx hb hts iw_St hown hK.1 hP 0 rfl rfl 4 (by decide) (hts _ mw_43) (fun _ h => h) rfl d_St_execute_56 ?_
      refine lv_iconst (v := (1 : Int32)) hx hb d_St_execute_59 (by decide) ?_
      refine lv_iload_n hx hb d_St_execute_60 rfl (lv_at hl 1 rfl) ?_
      refine lv_ishl hx hb d_St_execute_61 ?_
      refine lv_ior hx hb d_St_execute_62 ?_
      refine va_put (D := D) (ci := 4) (v := .int ((mst_doneBits u8) ||| ((1 : Int32) <<< (x1 &&& 31)))) (ty := .int) (C := R_St) (T := F_St) (N := 6) hx hb hts iw_St t_St t_St_ok n_St hown hK.1 hP hD hS 0 rfl rfl 4 (by decide) (hts _ mw_43) (fun _ h => h) rfl (t_St_ok 4 (by decide)) rfl rfl (Nat.le_of_ble_eq_true rfl) d_St_execute_63 (fun H locs hP hD hS => ?_)
      have hP : va_P D kmC (mstW cI cN cZ a1 (mst_s_doneBits (mst_s_answers u8 (upd (mst_answers u8) (x1).toNatClampNeg r7)) ((mst_doneBits u8) ||| ((1 : Int32) <<< (x1 &&& 31)))) ++ mbkW cI cN cZ a2 u2) H := hP
      have hD : va_D A (mstW cI cN cZ a1 (mst_s_doneBits (mst_s_answers u8 (upd (mst_answers u8) (x1).toNatClampNeg r7)) ((mst_doneBits u8) ||| ((1 : Int32) <<< (x1 &&& 31)))) ++ mbkW cI cN cZ a2 u2) := hD
      exact W.vret hx hb hr (fun t ht hW => ⟨⟨((mst_s_doneBits (mst_s_answers u8 (upd (mst_answers u8) (x1).toNatClampNeg r7)) ((mst_doneBits u8) ||| ((1 : Int32) <<< (x1 &&& 31)))), u2), rfl, hw, by rw [ht]; exact hP, hD⟩, hS.F ht⟩) hS.2.2 d_St_execute_66
