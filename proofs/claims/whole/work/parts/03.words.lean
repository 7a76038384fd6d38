/-! words that the walks take of the tables -/
set_option maxRecDepth 100000 in
theorem mp_0 : Cond.selects "SealedChain$RequestBook" y_Bk_isFull y_Bk_isFull ∈ kmW := km_s 0 (by first | rfl | decide +kernel) (by first | rfl | decide +kernel)
set_option maxRecDepth 100000 in
theorem mp_1 : Cond.selects "SealedChain$RequestBook" y_Bk_add y_Bk_add ∈ kmW := km_s 1 (by first | rfl | decide +kernel) (by first | rfl | decide +kernel)
set_option maxRecDepth 100000 in
theorem mp_2 : Cond.selects "SealedChain$RequestBook" y_Bk_has y_Bk_has ∈ kmW := km_s 2 (by first | rfl | decide +kernel) (by first | rfl | decide +kernel)
set_option maxRecDepth 100000 in
theorem mp_3 : Cond.selects "SealedChain$State" y_St_isDone y_St_isDone ∈ kmW := km_s 3 (by first | rfl | decide +kernel) (by first | rfl | decide +kernel)
set_option maxRecDepth 100000 in
theorem mp_4 : Cond.selects "SealedChain$State" y_St_hasMember y_St_hasMember ∈ kmW := km_s 4 (by first | rfl | decide +kernel) (by first | rfl | decide +kernel)
set_option maxRecDepth 100000 in
theorem mp_5 : Cond.selects "SealedChain$Node" y_Nd_mayAttempt y_Nd_mayAttempt ∈ kmW := km_s 5 (by first | rfl | decide +kernel) (by first | rfl | decide +kernel)
set_option maxRecDepth 100000 in
theorem mp_6 : Cond.selects "SealedChain$Node" y_Nd_isKnownAt y_Nd_isKnownAt ∈ kmW := km_s 6 (by first | rfl | decide +kernel) (by first | rfl | decide +kernel)
set_option maxRecDepth 100000 in
theorem mp_7 : Cond.selects "SealedChain$Node" y_Nd_leastBallotAboveLast y_Nd_leastBallotAboveLast ∈ kmW := km_s 7 (by first | rfl | decide +kernel) (by first | rfl | decide +kernel)
set_option maxRecDepth 100000 in
theorem mp_8 : Cond.selects "SealedChain$Attempt" y_At_begin y_At_begin ∈ kmW := km_s 8 (by first | rfl | decide +kernel) (by first | rfl | decide +kernel)
set_option maxRecDepth 100000 in
theorem mp_9 : Cond.selects "SealedChain$Node" y_Nd_mayAsk y_Nd_mayAsk ∈ kmW := km_s 9 (by first | rfl | decide +kernel) (by first | rfl | decide +kernel)
set_option maxRecDepth 100000 in
theorem mp_10 : Cond.selects "SealedChain$Attempt" y_At_isOpen y_At_isOpen ∈ kmW := km_s 10 (by first | rfl | decide +kernel) (by first | rfl | decide +kernel)
set_option maxRecDepth 100000 in
theorem mp_11 : Cond.selects "SealedChain$Node" y_Nd_install y_Nd_install ∈ kmW := km_s 11 (by first | rfl | decide +kernel) (by first | rfl | decide +kernel)
set_option maxRecDepth 100000 in
theorem mp_12 : Cond.selects "SealedChain$State" y_St_isLaterThan y_St_isLaterThan ∈ kmW := km_s 12 (by first | rfl | decide +kernel) (by first | rfl | decide +kernel)
set_option maxRecDepth 100000 in
theorem mp_13 : Cond.selects "SealedChain$State" y_St_copyFrom y_St_copyFrom ∈ kmW := km_s 13 (by first | rfl | decide +kernel) (by first | rfl | decide +kernel)
set_option maxRecDepth 100000 in
theorem mp_14 : Cond.selects "SealedChain$Node" y_Nd_leaveList y_Nd_leaveList ∈ kmW := km_s 14 (by first | rfl | decide +kernel) (by first | rfl | decide +kernel)
set_option maxRecDepth 100000 in
theorem mp_15 : Cond.selects "SealedChain$Attempt" y_At_end y_At_end ∈ kmW := km_s 15 (by first | rfl | decide +kernel) (by first | rfl | decide +kernel)
set_option maxRecDepth 100000 in
theorem mp_16 : Cond.selects "SealedChain$Attempt" y_At_addPromiser y_At_addPromiser ∈ kmW := km_s 16 (by first | rfl | decide +kernel) (by first | rfl | decide +kernel)
set_option maxRecDepth 100000 in
theorem mp_17 : Cond.selects "SealedChain$State" y_St_isMajority y_St_isMajority ∈ kmW := km_s 17 (by first | rfl | decide +kernel) (by first | rfl | decide +kernel)
set_option maxRecDepth 100000 in
theorem mp_18 : Cond.selects "SealedChain$Node" y_Nd_settleCommand y_Nd_settleCommand ∈ kmW := km_s 18 (by first | rfl | decide +kernel) (by first | rfl | decide +kernel)
set_option maxRecDepth 100000 in
theorem mp_19 : Cond.selects "SealedChain$Ledger" y_Lg_castVote y_Lg_castVote ∈ kmW := km_s 19 (by first | rfl | decide +kernel) (by first | rfl | decide +kernel)
set_option maxRecDepth 100000 in
theorem mp_20 : Cond.selects "SealedChain$Node" y_Nd_countVoter y_Nd_countVoter ∈ kmW := km_s 20 (by first | rfl | decide +kernel) (by first | rfl | decide +kernel)
set_option maxRecDepth 100000 in
theorem mp_21 : Cond.selects "SealedChain$Node" y_Nd_goOn y_Nd_goOn ∈ kmW := km_s 21 (by first | rfl | decide +kernel) (by first | rfl | decide +kernel)
set_option maxRecDepth 100000 in
theorem mp_22 : Cond.selects "SealedChain$Node" y_Nd_executeNext y_Nd_executeNext ∈ kmW := km_s 22 (by first | rfl | decide +kernel) (by first | rfl | decide +kernel)
set_option maxRecDepth 100000 in
theorem mp_23 : Cond.selects "SealedChain$State" y_St_execute y_St_execute ∈ kmW := km_s 23 (by first | rfl | decide +kernel) (by first | rfl | decide +kernel)
set_option maxRecDepth 100000 in
theorem mp_24 : Cond.selects "SealedChain$State" y_St_act y_St_act ∈ kmW := km_s 24 (by first | rfl | decide +kernel) (by first | rfl | decide +kernel)
set_option maxRecDepth 100000 in
theorem mp_25 : Cond.selects "SealedChain$State" y_St_seal y_St_seal ∈ kmW := km_s 25 (by first | rfl | decide +kernel) (by first | rfl | decide +kernel)
set_option maxRecDepth 100000 in
theorem mp_26 : Cond.selects "SealedChain$Node" y_Nd_learnFrom y_Nd_learnFrom ∈ kmW := km_s 26 (by first | rfl | decide +kernel) (by first | rfl | decide +kernel)
set_option maxRecDepth 100000 in
theorem mp_27 : Cond.selects "SealedChain$Node" y_Nd_goDown y_Nd_goDown ∈ kmW := km_s 27 (by first | rfl | decide +kernel) (by first | rfl | decide +kernel)
set_option maxRecDepth 100000 in
theorem mp_28 : Cond.selects "SealedChain$Ledger" y_Lg_forgetBelow y_Lg_forgetBelow ∈ kmW := km_s 28 (by first | rfl | decide +kernel) (by first | rfl | decide +kernel)
set_option maxRecDepth 100000 in
theorem mp_29 : Cond.selects "SealedChainModel" y_Md_isUp y_Md_isUp ∈ kmW := km_s 29 (by first | rfl | decide +kernel) (by first | rfl | decide +kernel)
set_option maxRecDepth 100000 in
theorem mp_30 : Cond.selects "SealedChainModel" y_Md_replayOf y_Md_replayOf ∈ kmW := km_s 30 (by first | rfl | decide +kernel) (by first | rfl | decide +kernel)
set_option maxRecDepth 100000 in
theorem mp_31 : Cond.selects "SealedChainModel" y_Md_replay y_Md_replay ∈ kmW := km_s 31 (by first | rfl | decide +kernel) (by first | rfl | decide +kernel)
set_option maxRecDepth 100000 in
theorem mp_32 : Cond.selects "SealedChainModel" y_Md_execute y_Md_execute ∈ kmW := km_s 32 (by first | rfl | decide +kernel) (by first | rfl | decide +kernel)
set_option maxRecDepth 100000 in
theorem mp_33 : Cond.selects "SealedChainModel" y_Md_hear y_Md_hear ∈ kmW := km_s 33 (by first | rfl | decide +kernel) (by first | rfl | decide +kernel)
set_option maxRecDepth 100000 in
theorem mp_34 : Cond.selects "SealedChainModel" y_Md_knows y_Md_knows ∈ kmW := km_s 34 (by first | rfl | decide +kernel) (by first | rfl | decide +kernel)
set_option maxRecDepth 100000 in
theorem mp_35 : Cond.selects "SealedChainModel" y_Md_barred y_Md_barred ∈ kmW := km_s 35 (by first | rfl | decide +kernel) (by first | rfl | decide +kernel)
set_option maxRecDepth 100000 in
theorem mp_36 : Cond.selects "SealedChainModel" y_Md_membersOf y_Md_membersOf ∈ kmW := km_s 36 (by first | rfl | decide +kernel) (by first | rfl | decide +kernel)
set_option maxRecDepth 100000 in
theorem mp_37 : Cond.selects "SealedChainModel" y_Md_majority y_Md_majority ∈ kmW := km_s 37 (by first | rfl | decide +kernel) (by first | rfl | decide +kernel)
set_option maxRecDepth 100000 in
theorem mp_38 : Cond.selects "SealedChainModel" y_Md_answer y_Md_answer ∈ kmW := km_s 38 (by first | rfl | decide +kernel) (by first | rfl | decide +kernel)
set_option maxRecDepth 100000 in
theorem mp_39 : Cond.selects "SealedChainModel" y_Md_install y_Md_install ∈ kmW := km_s 39 (by first | rfl | decide +kernel) (by first | rfl | decide +kernel)
set_option maxRecDepth 100000 in
theorem mp_40 : Cond.selects "SealedChainModel" y_Md_later y_Md_later ∈ kmW := km_s 40 (by first | rfl | decide +kernel) (by first | rfl | decide +kernel)
set_option maxRecDepth 100000 in
theorem mp_41 : Cond.selects "SealedChainModel" y_Md_choose y_Md_choose ∈ kmW := km_s 41 (by first | rfl | decide +kernel) (by first | rfl | decide +kernel)
set_option maxRecDepth 100000 in
theorem mp_42 : Cond.selects "SealedChainModel" y_Md_goOn y_Md_goOn ∈ kmW := km_s 42 (by first | rfl | decide +kernel) (by first | rfl | decide +kernel)
set_option maxRecDepth 100000 in
theorem mw_1 : Jvm.Cond.initialized "SealedChain" ∈ kmW := km_w 1 (by first | rfl | decide +kernel) (by first | rfl | decide +kernel)
set_option maxRecDepth 100000 in
theorem mw_2 : Jvm.Cond.initialized "SealedChain$Node" ∈ kmW := km_w 2 (by first | rfl | decide +kernel) (by first | rfl | decide +kernel)
set_option maxRecDepth 100000 in
theorem mw_3 : Jvm.Cond.initialized "SealedChain$State" ∈ kmW := km_w 3 (by first | rfl | decide +kernel) (by first | rfl | decide +kernel)
set_option maxRecDepth 100000 in
theorem mw_4 : Jvm.Cond.initialized "SealedChain$Ledger" ∈ kmW := km_w 4 (by first | rfl | decide +kernel) (by first | rfl | decide +kernel)
set_option maxRecDepth 100000 in
theorem mw_5 : Jvm.Cond.initialized "SealedChain$Attempt" ∈ kmW := km_w 5 (by first | rfl | decide +kernel) (by first | rfl | decide +kernel)
set_option maxRecDepth 100000 in
theorem mw_6 : Jvm.Cond.initialized "java/util/Arrays" ∈ kmW := km_w 6 (by first | rfl | decide +kernel) (by first | rfl | decide +kernel)
set_option maxRecDepth 100000 in
theorem mw_7 : Jvm.Cond.initialized "SealedChain$RequestBook" ∈ kmW := km_w 7 (by first | rfl | decide +kernel) (by first | rfl | decide +kernel)
set_option maxRecDepth 100000 in
theorem mw_8 : Jvm.Cond.initialized "SealedChainModel" ∈ kmW := km_w 8 (by first | rfl | decide +kernel) (by first | rfl | decide +kernel)
set_option maxRecDepth 100000 in
theorem mw_9 : Jvm.Cond.initialized "java/lang/Integer" ∈ kmW := km_w 9 (by first | rfl | decide +kernel) (by first | rfl | decide +kernel)
set_option maxRecDepth 100000 in
theorem mw_10 : Jvm.Cond.initialized "java/lang/Math" ∈ kmW := km_w 10 (by first | rfl | decide +kernel) (by first | rfl | decide +kernel)
set_option maxRecDepth 100000 in
theorem mw_11 : Jvm.Cond.initialized "java/lang/System" ∈ kmW := km_w 11 (by first | rfl | decide +kernel) (by first | rfl | decide +kernel)
set_option maxRecDepth 100000 in
theorem mw_33 : Jvm.Cond.fieldLink "SealedChain$State" (9 : Nat) "SealedChain$State" "configuration" "I" ∈ kmW := km_w 33 (by first | rfl | decide +kernel) (by first | rfl | decide +kernel)
set_option maxRecDepth 100000 in
theorem mw_36 : Jvm.Cond.fieldLink "SealedChain$State" (15 : Nat) "SealedChain$State" "membership" "I" ∈ kmW := km_w 36 (by first | rfl | decide +kernel) (by first | rfl | decide +kernel)
set_option maxRecDepth 100000 in
theorem mw_38 : Jvm.Cond.fieldLink "SealedChain$State" (18 : Nat) "SealedChain$State" "executed" "I" ∈ kmW := km_w 38 (by first | rfl | decide +kernel) (by first | rfl | decide +kernel)
set_option maxRecDepth 100000 in
theorem mw_41 : Jvm.Cond.fieldLink "SealedChain$State" (21 : Nat) "SealedChain$State" "values" "[I" ∈ kmW := km_w 41 (by first | rfl | decide +kernel) (by first | rfl | decide +kernel)
set_option maxRecDepth 100000 in
theorem mw_43 : Jvm.Cond.fieldLink "SealedChain$State" (25 : Nat) "SealedChain$State" "doneBits" "I" ∈ kmW := km_w 43 (by first | rfl | decide +kernel) (by first | rfl | decide +kernel)
set_option maxRecDepth 100000 in
theorem mw_44 : Jvm.Cond.fieldLink "SealedChain$State" (28 : Nat) "SealedChain$State" "answers" "[I" ∈ kmW := km_w 44 (by first | rfl | decide +kernel) (by first | rfl | decide +kernel)
set_option maxRecDepth 100000 in
theorem mw_66 : Jvm.Cond.fieldLink "SealedChain$Ledger" (9 : Nat) "SealedChain$Ledger" "promisedBallots" "[I" ∈ kmW := km_w 66 (by first | rfl | decide +kernel) (by first | rfl | decide +kernel)
set_option maxRecDepth 100000 in
theorem mw_68 : Jvm.Cond.fieldLink "SealedChain$Ledger" (15 : Nat) "SealedChain$Ledger" "voteBallots" "[I" ∈ kmW := km_w 68 (by first | rfl | decide +kernel) (by first | rfl | decide +kernel)
set_option maxRecDepth 100000 in
theorem mw_70 : Jvm.Cond.fieldLink "SealedChain$Ledger" (18 : Nat) "SealedChain$Ledger" "voteCommands" "[I" ∈ kmW := km_w 70 (by first | rfl | decide +kernel) (by first | rfl | decide +kernel)
set_option maxRecDepth 100000 in
theorem mw_85 : Jvm.Cond.fieldLink "SealedChain$Attempt" (9 : Nat) "SealedChain$Attempt" "slot" "I" ∈ kmW := km_w 85 (by first | rfl | decide +kernel) (by first | rfl | decide +kernel)
set_option maxRecDepth 100000 in
theorem mw_88 : Jvm.Cond.fieldLink "SealedChain$Attempt" (15 : Nat) "SealedChain$Attempt" "ballot" "I" ∈ kmW := km_w 88 (by first | rfl | decide +kernel) (by first | rfl | decide +kernel)
set_option maxRecDepth 100000 in
theorem mw_90 : Jvm.Cond.fieldLink "SealedChain$Attempt" (18 : Nat) "SealedChain$Attempt" "promisers" "I" ∈ kmW := km_w 90 (by first | rfl | decide +kernel) (by first | rfl | decide +kernel)
set_option maxRecDepth 100000 in
theorem mw_92 : Jvm.Cond.fieldLink "SealedChain$Attempt" (21 : Nat) "SealedChain$Attempt" "voters" "I" ∈ kmW := km_w 92 (by first | rfl | decide +kernel) (by first | rfl | decide +kernel)
set_option maxRecDepth 100000 in
theorem mw_95 : Jvm.Cond.fieldLink "SealedChain$Attempt" (24 : Nat) "SealedChain$Attempt" "bestBallot" "I" ∈ kmW := km_w 95 (by first | rfl | decide +kernel) (by first | rfl | decide +kernel)
set_option maxRecDepth 100000 in
theorem mw_97 : Jvm.Cond.fieldLink "SealedChain$Attempt" (27 : Nat) "SealedChain$Attempt" "bestCommand" "I" ∈ kmW := km_w 97 (by first | rfl | decide +kernel) (by first | rfl | decide +kernel)
set_option maxRecDepth 100000 in
theorem mw_99 : Jvm.Cond.fieldLink "SealedChain$Attempt" (30 : Nat) "SealedChain$Attempt" "command" "I" ∈ kmW := km_w 99 (by first | rfl | decide +kernel) (by first | rfl | decide +kernel)
set_option maxRecDepth 100000 in
theorem mw_117 : Jvm.Cond.methodLink "SealedChain$Node" (53 : Nat) y_Ja_fill ∈ kmW := km_w 117 (by first | rfl | decide +kernel) (by first | rfl | decide +kernel)
set_option maxRecDepth 100000 in
theorem mw_118 : Jvm.Cond.static y_Ja_fill ∈ kmW := km_w 118 (by first | rfl | decide +kernel) (by first | rfl | decide +kernel)
set_option maxRecDepth 100000 in
theorem mw_119 : Jvm.Cond.code y_Ja_fill prog_12_method_103_code (4 : Nat) (Option.none : Option Jvm.ClassFile.FieldType) ∈ kmW := km_w 119 (by first | rfl | decide +kernel) (by first | rfl | decide +kernel)
set_option maxRecDepth 100000 in
theorem mw_120 : Jvm.Cond.fieldLink "SealedChain$Node" (50 : Nat) "SealedChain$Node" "number" "I" ∈ kmW := km_w 120 (by first | rfl | decide +kernel) (by first | rfl | decide +kernel)
set_option maxRecDepth 100000 in
theorem mw_121 : Jvm.Cond.fieldLink "SealedChain$Node" (9 : Nat) "SealedChain$Node" "up" "Z" ∈ kmW := km_w 121 (by first | rfl | decide +kernel) (by first | rfl | decide +kernel)
set_option maxRecDepth 100000 in
theorem mw_123 : Jvm.Cond.fieldLink "SealedChain$Node" (18 : Nat) "SealedChain$Node" "state" "LSealedChain$State;" ∈ kmW := km_w 123 (by first | rfl | decide +kernel) (by first | rfl | decide +kernel)
set_option maxRecDepth 100000 in
theorem mw_127 : Jvm.Cond.fieldLink "SealedChain$Node" (29 : Nat) "SealedChain$Node" "last" "I" ∈ kmW := km_w 127 (by first | rfl | decide +kernel) (by first | rfl | decide +kernel)
set_option maxRecDepth 100000 in
theorem mw_131 : Jvm.Cond.fieldLink "SealedChain$Node" (36 : Nat) "SealedChain$Node" "knownCommands" "[I" ∈ kmW := km_w 131 (by first | rfl | decide +kernel) (by first | rfl | decide +kernel)
set_option maxRecDepth 100000 in
theorem mw_133 : Jvm.Cond.fieldLink "SealedChain$Node" (40 : Nat) "SealedChain$Node" "pending" "I" ∈ kmW := km_w 133 (by first | rfl | decide +kernel) (by first | rfl | decide +kernel)
set_option maxRecDepth 100000 in
theorem mw_135 : Jvm.Cond.fieldLink "SealedChain$Node" (46 : Nat) "SealedChain$Node" "attempt" "LSealedChain$Attempt;" ∈ kmW := km_w 135 (by first | rfl | decide +kernel) (by first | rfl | decide +kernel)
set_option maxRecDepth 100000 in
theorem mw_162 : Jvm.Cond.fieldLink "SealedChain$RequestBook" (9 : Nat) "SealedChain$RequestBook" "kinds" "[I" ∈ kmW := km_w 162 (by first | rfl | decide +kernel) (by first | rfl | decide +kernel)
set_option maxRecDepth 100000 in
theorem mw_164 : Jvm.Cond.fieldLink "SealedChain$RequestBook" (15 : Nat) "SealedChain$RequestBook" "keys" "[I" ∈ kmW := km_w 164 (by first | rfl | decide +kernel) (by first | rfl | decide +kernel)
set_option maxRecDepth 100000 in
theorem mw_166 : Jvm.Cond.fieldLink "SealedChain$RequestBook" (18 : Nat) "SealedChain$RequestBook" "numbers" "[I" ∈ kmW := km_w 166 (by first | rfl | decide +kernel) (by first | rfl | decide +kernel)
set_option maxRecDepth 100000 in
theorem mw_168 : Jvm.Cond.fieldLink "SealedChain$RequestBook" (21 : Nat) "SealedChain$RequestBook" "count" "I" ∈ kmW := km_w 168 (by first | rfl | decide +kernel) (by first | rfl | decide +kernel)
set_option maxRecDepth 100000 in
theorem mw_178 : Jvm.Cond.fieldLink "SealedChain" (11 : Nat) "SealedChain" "nodes" "[LSealedChain$Node;" ∈ kmW := km_w 178 (by first | rfl | decide +kernel) (by first | rfl | decide +kernel)
set_option maxRecDepth 100000 in
theorem mw_179 : Jvm.Cond.fieldLink "SealedChain" (21 : Nat) "SealedChain" "book" "LSealedChain$RequestBook;" ∈ kmW := km_w 179 (by first | rfl | decide +kernel) (by first | rfl | decide +kernel)
set_option maxRecDepth 100000 in
theorem mw_180 : Jvm.Cond.fieldLink "SealedChain" (25 : Nat) "SealedChain" "heardAnswers" "[I" ∈ kmW := km_w 180 (by first | rfl | decide +kernel) (by first | rfl | decide +kernel)
set_option maxRecDepth 100000 in
theorem mw_181 : Jvm.Cond.fieldLink "SealedChain" (29 : Nat) "SealedChain" "heardCounts" "[I" ∈ kmW := km_w 181 (by first | rfl | decide +kernel) (by first | rfl | decide +kernel)
set_option maxRecDepth 100000 in
theorem mw_182 : Jvm.Cond.fieldLink "SealedChain" (32 : Nat) "SealedChain" "routerConfiguration" "I" ∈ kmW := km_w 182 (by first | rfl | decide +kernel) (by first | rfl | decide +kernel)
set_option maxRecDepth 100000 in
theorem mw_198 : Jvm.Cond.methodLink "SealedChain" (36 : Nat) y_Ch_isKey ∈ kmW := km_w 198 (by first | rfl | decide +kernel) (by first | rfl | decide +kernel)
set_option maxRecDepth 100000 in
theorem mw_199 : Jvm.Cond.static y_Ch_isKey ∈ kmW := km_w 199 (by first | rfl | decide +kernel) (by first | rfl | decide +kernel)
set_option maxRecDepth 100000 in
theorem mw_200 : Jvm.Cond.code y_Ch_isKey prog_1_method_21_code (1 : Nat) (Option.some Jvm.ClassFile.FieldType.boolean) ∈ kmW := km_w 200 (by first | rfl | decide +kernel) (by first | rfl | decide +kernel)
set_option maxRecDepth 100000 in
theorem mw_201 : Jvm.Cond.methodLink "SealedChain" (40 : Nat) y_Ch_isMembership ∈ kmW := km_w 201 (by first | rfl | decide +kernel) (by first | rfl | decide +kernel)
set_option maxRecDepth 100000 in
theorem mw_202 : Jvm.Cond.static y_Ch_isMembership ∈ kmW := km_w 202 (by first | rfl | decide +kernel) (by first | rfl | decide +kernel)
set_option maxRecDepth 100000 in
theorem mw_203 : Jvm.Cond.code y_Ch_isMembership prog_1_method_24_code (2 : Nat) (Option.some Jvm.ClassFile.FieldType.boolean) ∈ kmW := km_w 203 (by first | rfl | decide +kernel) (by first | rfl | decide +kernel)
set_option maxRecDepth 100000 in
theorem mw_204 : Jvm.Cond.methodLink "SealedChain" (205 : Nat) y_Ji_bitCount ∈ kmW := km_w 204 (by first | rfl | decide +kernel) (by first | rfl | decide +kernel)
set_option maxRecDepth 100000 in
theorem mw_205 : Jvm.Cond.static y_Ji_bitCount ∈ kmW := km_w 205 (by first | rfl | decide +kernel) (by first | rfl | decide +kernel)
set_option maxRecDepth 100000 in
theorem mw_206 : Jvm.Cond.code y_Ji_bitCount prog_9_method_49_code (1 : Nat) (Option.some Jvm.ClassFile.FieldType.int) ∈ kmW := km_w 206 (by first | rfl | decide +kernel) (by first | rfl | decide +kernel)
set_option maxRecDepth 100000 in
theorem mw_207 : Jvm.Cond.constant "java/lang/Integer" (265 : Nat) (1431655765 : Int32) ∈ kmW := km_w 207 (by first | rfl | decide +kernel) (by first | rfl | decide +kernel)
set_option maxRecDepth 100000 in
theorem mw_208 : Jvm.Cond.constant "java/lang/Integer" (266 : Nat) (858993459 : Int32) ∈ kmW := km_w 208 (by first | rfl | decide +kernel) (by first | rfl | decide +kernel)
set_option maxRecDepth 100000 in
theorem mw_209 : Jvm.Cond.constant "java/lang/Integer" (267 : Nat) (252645135 : Int32) ∈ kmW := km_w 209 (by first | rfl | decide +kernel) (by first | rfl | decide +kernel)
set_option maxRecDepth 100000 in
theorem mw_212 : Jvm.Cond.instanceMethod y_Bk_isFull ∈ kmW := km_w 212 (by first | rfl | decide +kernel) (by first | rfl | decide +kernel)
set_option maxRecDepth 100000 in
theorem mw_213 : Jvm.Cond.code y_Bk_isFull prog_5_method_3_code (1 : Nat) (Option.some Jvm.ClassFile.FieldType.boolean) ∈ kmW := km_w 213 (by first | rfl | decide +kernel) (by first | rfl | decide +kernel)
set_option maxRecDepth 100000 in
theorem mw_216 : Jvm.Cond.instanceMethod y_Bk_add ∈ kmW := km_w 216 (by first | rfl | decide +kernel) (by first | rfl | decide +kernel)
set_option maxRecDepth 100000 in
theorem mw_217 : Jvm.Cond.code y_Bk_add prog_5_method_4_code (4 : Nat) (Option.some Jvm.ClassFile.FieldType.int) ∈ kmW := km_w 217 (by first | rfl | decide +kernel) (by first | rfl | decide +kernel)
set_option maxRecDepth 100000 in
theorem mw_224 : Jvm.Cond.instanceMethod y_Bk_has ∈ kmW := km_w 224 (by first | rfl | decide +kernel) (by first | rfl | decide +kernel)
set_option maxRecDepth 100000 in
theorem mw_225 : Jvm.Cond.code y_Bk_has prog_5_method_2_code (2 : Nat) (Option.some Jvm.ClassFile.FieldType.boolean) ∈ kmW := km_w 225 (by first | rfl | decide +kernel) (by first | rfl | decide +kernel)
set_option maxRecDepth 100000 in
theorem mw_226 : Jvm.Cond.methodLink "SealedChain" (54 : Nat) y_Ch_isNode ∈ kmW := km_w 226 (by first | rfl | decide +kernel) (by first | rfl | decide +kernel)
set_option maxRecDepth 100000 in
theorem mw_227 : Jvm.Cond.static y_Ch_isNode ∈ kmW := km_w 227 (by first | rfl | decide +kernel) (by first | rfl | decide +kernel)
set_option maxRecDepth 100000 in
theorem mw_228 : Jvm.Cond.code y_Ch_isNode prog_1_method_20_code (1 : Nat) (Option.some Jvm.ClassFile.FieldType.boolean) ∈ kmW := km_w 228 (by first | rfl | decide +kernel) (by first | rfl | decide +kernel)
set_option maxRecDepth 100000 in
theorem mw_231 : Jvm.Cond.instanceMethod y_St_isDone ∈ kmW := km_w 231 (by first | rfl | decide +kernel) (by first | rfl | decide +kernel)
set_option maxRecDepth 100000 in
theorem mw_232 : Jvm.Cond.code y_St_isDone prog_6_method_2_code (2 : Nat) (Option.some Jvm.ClassFile.FieldType.boolean) ∈ kmW := km_w 232 (by first | rfl | decide +kernel) (by first | rfl | decide +kernel)
set_option maxRecDepth 100000 in
theorem mw_235 : Jvm.Cond.instanceMethod y_St_hasMember ∈ kmW := km_w 235 (by first | rfl | decide +kernel) (by first | rfl | decide +kernel)
set_option maxRecDepth 100000 in
theorem mw_236 : Jvm.Cond.code y_St_hasMember prog_6_method_3_code (2 : Nat) (Option.some Jvm.ClassFile.FieldType.boolean) ∈ kmW := km_w 236 (by first | rfl | decide +kernel) (by first | rfl | decide +kernel)
set_option maxRecDepth 100000 in
theorem mw_247 : Jvm.Cond.instanceMethod y_Nd_mayAttempt ∈ kmW := km_w 247 (by first | rfl | decide +kernel) (by first | rfl | decide +kernel)
set_option maxRecDepth 100000 in
theorem mw_248 : Jvm.Cond.code y_Nd_mayAttempt prog_4_method_3_code (3 : Nat) (Option.some Jvm.ClassFile.FieldType.boolean) ∈ kmW := km_w 248 (by first | rfl | decide +kernel) (by first | rfl | decide +kernel)
set_option maxRecDepth 100000 in
theorem mw_250 : Jvm.Cond.static y_Ch_isSlot ∈ kmW := km_w 250 (by first | rfl | decide +kernel) (by first | rfl | decide +kernel)
set_option maxRecDepth 100000 in
theorem mw_251 : Jvm.Cond.code y_Ch_isSlot prog_1_method_23_code (1 : Nat) (Option.some Jvm.ClassFile.FieldType.boolean) ∈ kmW := km_w 251 (by first | rfl | decide +kernel) (by first | rfl | decide +kernel)
set_option maxRecDepth 100000 in
theorem mw_252 : Jvm.Cond.methodLink "SealedChain$Node" (66 : Nat) y_Nd_isKnownAt ∈ kmW := km_w 252 (by first | rfl | decide +kernel) (by first | rfl | decide +kernel)
set_option maxRecDepth 100000 in
theorem mw_254 : Jvm.Cond.instanceMethod y_Nd_isKnownAt ∈ kmW := km_w 254 (by first | rfl | decide +kernel) (by first | rfl | decide +kernel)
set_option maxRecDepth 100000 in
theorem mw_255 : Jvm.Cond.code y_Nd_isKnownAt prog_4_method_2_code (2 : Nat) (Option.some Jvm.ClassFile.FieldType.boolean) ∈ kmW := km_w 255 (by first | rfl | decide +kernel) (by first | rfl | decide +kernel)
set_option maxRecDepth 100000 in
theorem mw_258 : Jvm.Cond.instanceMethod y_Nd_leastBallotAboveLast ∈ kmW := km_w 258 (by first | rfl | decide +kernel) (by first | rfl | decide +kernel)
set_option maxRecDepth 100000 in
theorem mw_259 : Jvm.Cond.code y_Nd_leastBallotAboveLast prog_4_method_5_code (2 : Nat) (Option.some Jvm.ClassFile.FieldType.int) ∈ kmW := km_w 259 (by first | rfl | decide +kernel) (by first | rfl | decide +kernel)
set_option maxRecDepth 100000 in
theorem mw_260 : Jvm.Cond.methodLink "SealedChain$Node" (76 : Nat) y_Jm_max ∈ kmW := km_w 260 (by first | rfl | decide +kernel) (by first | rfl | decide +kernel)
set_option maxRecDepth 100000 in
theorem mw_261 : Jvm.Cond.static y_Jm_max ∈ kmW := km_w 261 (by first | rfl | decide +kernel) (by first | rfl | decide +kernel)
set_option maxRecDepth 100000 in
theorem mw_262 : Jvm.Cond.code y_Jm_max prog_10_method_65_code (2 : Nat) (Option.some Jvm.ClassFile.FieldType.int) ∈ kmW := km_w 262 (by first | rfl | decide +kernel) (by first | rfl | decide +kernel)
set_option maxRecDepth 100000 in
theorem mw_265 : Jvm.Cond.instanceMethod y_At_begin ∈ kmW := km_w 265 (by first | rfl | decide +kernel) (by first | rfl | decide +kernel)
set_option maxRecDepth 100000 in
theorem mw_266 : Jvm.Cond.code y_At_begin prog_2_method_3_code (3 : Nat) (Option.none : Option Jvm.ClassFile.FieldType) ∈ kmW := km_w 266 (by first | rfl | decide +kernel) (by first | rfl | decide +kernel)
set_option maxRecDepth 100000 in
theorem mw_273 : Jvm.Cond.instanceMethod y_Nd_mayAsk ∈ kmW := km_w 273 (by first | rfl | decide +kernel) (by first | rfl | decide +kernel)
set_option maxRecDepth 100000 in
theorem mw_274 : Jvm.Cond.code y_Nd_mayAsk prog_4_method_4_code (2 : Nat) (Option.some Jvm.ClassFile.FieldType.boolean) ∈ kmW := km_w 274 (by first | rfl | decide +kernel) (by first | rfl | decide +kernel)
set_option maxRecDepth 100000 in
theorem mw_277 : Jvm.Cond.instanceMethod y_At_isOpen ∈ kmW := km_w 277 (by first | rfl | decide +kernel) (by first | rfl | decide +kernel)
set_option maxRecDepth 100000 in
theorem mw_278 : Jvm.Cond.code y_At_isOpen prog_2_method_2_code (1 : Nat) (Option.some Jvm.ClassFile.FieldType.boolean) ∈ kmW := km_w 278 (by first | rfl | decide +kernel) (by first | rfl | decide +kernel)
set_option maxRecDepth 100000 in
theorem mw_280 : Jvm.Cond.methodLink "SealedChain" (105 : Nat) y_Ch_refusalOf ∈ kmW := km_w 280 (by first | rfl | decide +kernel) (by first | rfl | decide +kernel)
set_option maxRecDepth 100000 in
theorem mw_281 : Jvm.Cond.static y_Ch_refusalOf ∈ kmW := km_w 281 (by first | rfl | decide +kernel) (by first | rfl | decide +kernel)
set_option maxRecDepth 100000 in
theorem mw_282 : Jvm.Cond.code y_Ch_refusalOf prog_1_method_19_code (6 : Nat) (Option.some Jvm.ClassFile.FieldType.int) ∈ kmW := km_w 282 (by first | rfl | decide +kernel) (by first | rfl | decide +kernel)
set_option maxRecDepth 100000 in
theorem mw_285 : Jvm.Cond.instanceMethod y_Nd_install ∈ kmW := km_w 285 (by first | rfl | decide +kernel) (by first | rfl | decide +kernel)
set_option maxRecDepth 100000 in
theorem mw_286 : Jvm.Cond.code y_Nd_install prog_4_method_8_code (2 : Nat) (Option.some Jvm.ClassFile.FieldType.boolean) ∈ kmW := km_w 286 (by first | rfl | decide +kernel) (by first | rfl | decide +kernel)
set_option maxRecDepth 100000 in
theorem mw_289 : Jvm.Cond.instanceMethod y_St_isLaterThan ∈ kmW := km_w 289 (by first | rfl | decide +kernel) (by first | rfl | decide +kernel)
set_option maxRecDepth 100000 in
theorem mw_290 : Jvm.Cond.code y_St_isLaterThan prog_6_method_5_code (2 : Nat) (Option.some Jvm.ClassFile.FieldType.boolean) ∈ kmW := km_w 290 (by first | rfl | decide +kernel) (by first | rfl | decide +kernel)
set_option maxRecDepth 100000 in
theorem mw_293 : Jvm.Cond.instanceMethod y_St_copyFrom ∈ kmW := km_w 293 (by first | rfl | decide +kernel) (by first | rfl | decide +kernel)
set_option maxRecDepth 100000 in
theorem mw_294 : Jvm.Cond.code y_St_copyFrom prog_6_method_6_code (2 : Nat) (Option.none : Option Jvm.ClassFile.FieldType) ∈ kmW := km_w 294 (by first | rfl | decide +kernel) (by first | rfl | decide +kernel)
set_option maxRecDepth 100000 in
theorem mw_295 : Jvm.Cond.methodLink "SealedChain$State" (37 : Nat) ⟨"java/lang/System", "arraycopy", "(Ljava/lang/Object;ILjava/lang/Object;II)V"⟩ ∈ kmW := km_w 295 (by first | rfl | decide +kernel) (by first | rfl | decide +kernel)
set_option maxRecDepth 100000 in
theorem mw_296 : Jvm.Cond.static ⟨"java/lang/System", "arraycopy", "(Ljava/lang/Object;ILjava/lang/Object;II)V"⟩ ∈ kmW := km_w 296 (by first | rfl | decide +kernel) (by first | rfl | decide +kernel)
set_option maxRecDepth 100000 in
theorem mw_297 : Jvm.Cond.native ⟨"java/lang/System", "arraycopy", "(Ljava/lang/Object;ILjava/lang/Object;II)V"⟩ ∈ kmW := km_w 297 (by first | rfl | decide +kernel) (by first | rfl | decide +kernel)
set_option maxRecDepth 100000 in
theorem mw_298 : Jvm.Cond.methodLink "SealedChain$Node" (115 : Nat) y_Nd_leaveList ∈ kmW := km_w 298 (by first | rfl | decide +kernel) (by first | rfl | decide +kernel)
set_option maxRecDepth 100000 in
theorem mw_300 : Jvm.Cond.instanceMethod y_Nd_leaveList ∈ kmW := km_w 300 (by first | rfl | decide +kernel) (by first | rfl | decide +kernel)
set_option maxRecDepth 100000 in
theorem mw_301 : Jvm.Cond.code y_Nd_leaveList prog_4_method_12_code (1 : Nat) (Option.none : Option Jvm.ClassFile.FieldType) ∈ kmW := km_w 301 (by first | rfl | decide +kernel) (by first | rfl | decide +kernel)
set_option maxRecDepth 100000 in
theorem mw_304 : Jvm.Cond.instanceMethod y_At_end ∈ kmW := km_w 304 (by first | rfl | decide +kernel) (by first | rfl | decide +kernel)
set_option maxRecDepth 100000 in
theorem mw_305 : Jvm.Cond.code y_At_end prog_2_method_4_code (1 : Nat) (Option.none : Option Jvm.ClassFile.FieldType) ∈ kmW := km_w 305 (by first | rfl | decide +kernel) (by first | rfl | decide +kernel)
set_option maxRecDepth 100000 in
theorem mw_306 : Jvm.Cond.methodLink "SealedChain$Attempt" (33 : Nat) y_At_begin ∈ kmW := km_w 306 (by first | rfl | decide +kernel) (by first | rfl | decide +kernel)
set_option maxRecDepth 100000 in
theorem mw_308 : Jvm.Cond.static y_Lg_cellOf ∈ kmW := km_w 308 (by first | rfl | decide +kernel) (by first | rfl | decide +kernel)
set_option maxRecDepth 100000 in
theorem mw_309 : Jvm.Cond.code y_Lg_cellOf prog_3_method_2_code (2 : Nat) (Option.some Jvm.ClassFile.FieldType.int) ∈ kmW := km_w 309 (by first | rfl | decide +kernel) (by first | rfl | decide +kernel)
set_option maxRecDepth 100000 in
theorem mw_310 : Jvm.Cond.methodLink "SealedChain" (200 : Nat) y_Jm_max ∈ kmW := km_w 310 (by first | rfl | decide +kernel) (by first | rfl | decide +kernel)
set_option maxRecDepth 100000 in
theorem mw_313 : Jvm.Cond.instanceMethod y_At_addPromiser ∈ kmW := km_w 313 (by first | rfl | decide +kernel) (by first | rfl | decide +kernel)
set_option maxRecDepth 100000 in
theorem mw_314 : Jvm.Cond.code y_At_addPromiser prog_2_method_5_code (4 : Nat) (Option.none : Option Jvm.ClassFile.FieldType) ∈ kmW := km_w 314 (by first | rfl | decide +kernel) (by first | rfl | decide +kernel)
set_option maxRecDepth 100000 in
theorem mw_321 : Jvm.Cond.instanceMethod y_St_isMajority ∈ kmW := km_w 321 (by first | rfl | decide +kernel) (by first | rfl | decide +kernel)
set_option maxRecDepth 100000 in
theorem mw_322 : Jvm.Cond.code y_St_isMajority prog_6_method_4_code (2 : Nat) (Option.some Jvm.ClassFile.FieldType.boolean) ∈ kmW := km_w 322 (by first | rfl | decide +kernel) (by first | rfl | decide +kernel)
set_option maxRecDepth 100000 in
theorem mw_323 : Jvm.Cond.methodLink "SealedChain$State" (31 : Nat) y_Ji_bitCount ∈ kmW := km_w 323 (by first | rfl | decide +kernel) (by first | rfl | decide +kernel)
set_option maxRecDepth 100000 in
theorem mw_326 : Jvm.Cond.instanceMethod y_Nd_settleCommand ∈ kmW := km_w 326 (by first | rfl | decide +kernel) (by first | rfl | decide +kernel)
set_option maxRecDepth 100000 in
theorem mw_327 : Jvm.Cond.code y_Nd_settleCommand prog_4_method_6_code (1 : Nat) (Option.none : Option Jvm.ClassFile.FieldType) ∈ kmW := km_w 327 (by first | rfl | decide +kernel) (by first | rfl | decide +kernel)
set_option maxRecDepth 100000 in
theorem mw_331 : Jvm.Cond.instanceMethod y_Lg_castVote ∈ kmW := km_w 331 (by first | rfl | decide +kernel) (by first | rfl | decide +kernel)
set_option maxRecDepth 100000 in
theorem mw_332 : Jvm.Cond.code y_Lg_castVote prog_3_method_3_code (4 : Nat) (Option.none : Option Jvm.ClassFile.FieldType) ∈ kmW := km_w 332 (by first | rfl | decide +kernel) (by first | rfl | decide +kernel)
set_option maxRecDepth 100000 in
theorem mw_335 : Jvm.Cond.instanceMethod y_Nd_countVoter ∈ kmW := km_w 335 (by first | rfl | decide +kernel) (by first | rfl | decide +kernel)
set_option maxRecDepth 100000 in
theorem mw_336 : Jvm.Cond.code y_Nd_countVoter prog_4_method_7_code (3 : Nat) (Option.none : Option Jvm.ClassFile.FieldType) ∈ kmW := km_w 336 (by first | rfl | decide +kernel) (by first | rfl | decide +kernel)
set_option maxRecDepth 100000 in
theorem mw_338 : Jvm.Cond.methodLink "SealedChain$Node" (103 : Nat) y_Nd_goOn ∈ kmW := km_w 338 (by first | rfl | decide +kernel) (by first | rfl | decide +kernel)
set_option maxRecDepth 100000 in
theorem mw_340 : Jvm.Cond.instanceMethod y_Nd_goOn ∈ kmW := km_w 340 (by first | rfl | decide +kernel) (by first | rfl | decide +kernel)
set_option maxRecDepth 100000 in
theorem mw_341 : Jvm.Cond.code y_Nd_goOn prog_4_method_10_code (3 : Nat) (Option.none : Option Jvm.ClassFile.FieldType) ∈ kmW := km_w 341 (by first | rfl | decide +kernel) (by first | rfl | decide +kernel)
set_option maxRecDepth 100000 in
theorem mw_342 : Jvm.Cond.methodLink "SealedChain$Node" (121 : Nat) y_Nd_executeNext ∈ kmW := km_w 342 (by first | rfl | decide +kernel) (by first | rfl | decide +kernel)
set_option maxRecDepth 100000 in
theorem mw_344 : Jvm.Cond.instanceMethod y_Nd_executeNext ∈ kmW := km_w 344 (by first | rfl | decide +kernel) (by first | rfl | decide +kernel)
set_option maxRecDepth 100000 in
theorem mw_345 : Jvm.Cond.code y_Nd_executeNext prog_4_method_11_code (5 : Nat) (Option.none : Option Jvm.ClassFile.FieldType) ∈ kmW := km_w 345 (by first | rfl | decide +kernel) (by first | rfl | decide +kernel)
set_option maxRecDepth 100000 in
theorem mw_348 : Jvm.Cond.instanceMethod y_St_execute ∈ kmW := km_w 348 (by first | rfl | decide +kernel) (by first | rfl | decide +kernel)
set_option maxRecDepth 100000 in
theorem mw_349 : Jvm.Cond.code y_St_execute prog_6_method_7_code (3 : Nat) (Option.none : Option Jvm.ClassFile.FieldType) ∈ kmW := km_w 349 (by first | rfl | decide +kernel) (by first | rfl | decide +kernel)
set_option maxRecDepth 100000 in
theorem mw_351 : Jvm.Cond.methodLink "SealedChain$State" (49 : Nat) y_St_isDone ∈ kmW := km_w 351 (by first | rfl | decide +kernel) (by first | rfl | decide +kernel)
set_option maxRecDepth 100000 in
theorem mw_352 : Jvm.Cond.methodLink "SealedChain$State" (61 : Nat) y_St_act ∈ kmW := km_w 352 (by first | rfl | decide +kernel) (by first | rfl | decide +kernel)
set_option maxRecDepth 100000 in
theorem mw_354 : Jvm.Cond.instanceMethod y_St_act ∈ kmW := km_w 354 (by first | rfl | decide +kernel) (by first | rfl | decide +kernel)
set_option maxRecDepth 100000 in
theorem mw_355 : Jvm.Cond.code y_St_act prog_6_method_8_code (5 : Nat) (Option.some Jvm.ClassFile.FieldType.int) ∈ kmW := km_w 355 (by first | rfl | decide +kernel) (by first | rfl | decide +kernel)
set_option maxRecDepth 100000 in
theorem mw_356 : Jvm.Cond.methodLink "SealedChain$State" (65 : Nat) y_St_seal ∈ kmW := km_w 356 (by first | rfl | decide +kernel) (by first | rfl | decide +kernel)
set_option maxRecDepth 100000 in
theorem mw_358 : Jvm.Cond.instanceMethod y_St_seal ∈ kmW := km_w 358 (by first | rfl | decide +kernel) (by first | rfl | decide +kernel)
set_option maxRecDepth 100000 in
theorem mw_359 : Jvm.Cond.code y_St_seal prog_6_method_9_code (2 : Nat) (Option.some Jvm.ClassFile.FieldType.int) ∈ kmW := km_w 359 (by first | rfl | decide +kernel) (by first | rfl | decide +kernel)
set_option maxRecDepth 100000 in
theorem mw_366 : Jvm.Cond.instanceMethod y_Nd_learnFrom ∈ kmW := km_w 366 (by first | rfl | decide +kernel) (by first | rfl | decide +kernel)
set_option maxRecDepth 100000 in
theorem mw_367 : Jvm.Cond.code y_Nd_learnFrom prog_4_method_9_code (4 : Nat) (Option.some Jvm.ClassFile.FieldType.boolean) ∈ kmW := km_w 367 (by first | rfl | decide +kernel) (by first | rfl | decide +kernel)
set_option maxRecDepth 100000 in
theorem mw_375 : Jvm.Cond.instanceMethod y_Nd_goDown ∈ kmW := km_w 375 (by first | rfl | decide +kernel) (by first | rfl | decide +kernel)
set_option maxRecDepth 100000 in
theorem mw_376 : Jvm.Cond.code y_Nd_goDown prog_4_method_13_code (1 : Nat) (Option.none : Option Jvm.ClassFile.FieldType) ∈ kmW := km_w 376 (by first | rfl | decide +kernel) (by first | rfl | decide +kernel)
set_option maxRecDepth 100000 in
theorem mw_387 : Jvm.Cond.instanceMethod y_Lg_forgetBelow ∈ kmW := km_w 387 (by first | rfl | decide +kernel) (by first | rfl | decide +kernel)
set_option maxRecDepth 100000 in
theorem mw_388 : Jvm.Cond.code y_Lg_forgetBelow prog_3_method_4_code (4 : Nat) (Option.some Jvm.ClassFile.FieldType.int) ∈ kmW := km_w 388 (by first | rfl | decide +kernel) (by first | rfl | decide +kernel)
set_option maxRecDepth 100000 in
theorem mw_401 : Jvm.Cond.methodLink "SealedChain" (191 : Nat) y_Ch_isConfiguration ∈ kmW := km_w 401 (by first | rfl | decide +kernel) (by first | rfl | decide +kernel)
set_option maxRecDepth 100000 in
theorem mw_402 : Jvm.Cond.static y_Ch_isConfiguration ∈ kmW := km_w 402 (by first | rfl | decide +kernel) (by first | rfl | decide +kernel)
set_option maxRecDepth 100000 in
theorem mw_403 : Jvm.Cond.code y_Ch_isConfiguration prog_1_method_22_code (1 : Nat) (Option.some Jvm.ClassFile.FieldType.boolean) ∈ kmW := km_w 403 (by first | rfl | decide +kernel) (by first | rfl | decide +kernel)
set_option maxRecDepth 100000 in
theorem mw_404 : Jvm.Cond.methodLink "SealedChain" (194 : Nat) y_Ch_isSlot ∈ kmW := km_w 404 (by first | rfl | decide +kernel) (by first | rfl | decide +kernel)
set_option maxRecDepth 100000 in
theorem mw_427 : Jvm.Cond.fieldLink "SealedChainModel" (129 : Nat) "SealedChainModel" "requests" "I" ∈ kmW := km_w 427 (by first | rfl | decide +kernel) (by first | rfl | decide +kernel)
set_option maxRecDepth 100000 in
theorem mw_428 : Jvm.Cond.fieldLink "SealedChainModel" (7 : Nat) "SealedChainModel" "kindOf" "[I" ∈ kmW := km_w 428 (by first | rfl | decide +kernel) (by first | rfl | decide +kernel)
set_option maxRecDepth 100000 in
theorem mw_429 : Jvm.Cond.fieldLink "SealedChainModel" (13 : Nat) "SealedChainModel" "keyOf" "[I" ∈ kmW := km_w 429 (by first | rfl | decide +kernel) (by first | rfl | decide +kernel)
set_option maxRecDepth 100000 in
theorem mw_430 : Jvm.Cond.fieldLink "SealedChainModel" (16 : Nat) "SealedChainModel" "numberOf" "[I" ∈ kmW := km_w 430 (by first | rfl | decide +kernel) (by first | rfl | decide +kernel)
set_option maxRecDepth 100000 in
theorem mw_431 : Jvm.Cond.fieldLink "SealedChainModel" (19 : Nat) "SealedChainModel" "heardOf" "[I" ∈ kmW := km_w 431 (by first | rfl | decide +kernel) (by first | rfl | decide +kernel)
set_option maxRecDepth 100000 in
theorem mw_432 : Jvm.Cond.fieldLink "SealedChainModel" (22 : Nat) "SealedChainModel" "replyOf" "[I" ∈ kmW := km_w 432 (by first | rfl | decide +kernel) (by first | rfl | decide +kernel)
set_option maxRecDepth 100000 in
theorem mw_433 : Jvm.Cond.fieldLink "SealedChainModel" (135 : Nat) "SealedChainModel" "router" "I" ∈ kmW := km_w 433 (by first | rfl | decide +kernel) (by first | rfl | decide +kernel)
set_option maxRecDepth 100000 in
theorem mw_434 : Jvm.Cond.fieldLink "SealedChainModel" (25 : Nat) "SealedChainModel" "decided" "[I" ∈ kmW := km_w 434 (by first | rfl | decide +kernel) (by first | rfl | decide +kernel)
set_option maxRecDepth 100000 in
theorem mw_435 : Jvm.Cond.fieldLink "SealedChainModel" (28 : Nat) "SealedChainModel" "up" "I" ∈ kmW := km_w 435 (by first | rfl | decide +kernel) (by first | rfl | decide +kernel)
set_option maxRecDepth 100000 in
theorem mw_436 : Jvm.Cond.fieldLink "SealedChainModel" (32 : Nat) "SealedChainModel" "configuration" "[I" ∈ kmW := km_w 436 (by first | rfl | decide +kernel) (by first | rfl | decide +kernel)
set_option maxRecDepth 100000 in
theorem mw_437 : Jvm.Cond.fieldLink "SealedChainModel" (35 : Nat) "SealedChainModel" "executed" "[I" ∈ kmW := km_w 437 (by first | rfl | decide +kernel) (by first | rfl | decide +kernel)
set_option maxRecDepth 100000 in
theorem mw_438 : Jvm.Cond.fieldLink "SealedChainModel" (38 : Nat) "SealedChainModel" "known" "[I" ∈ kmW := km_w 438 (by first | rfl | decide +kernel) (by first | rfl | decide +kernel)
set_option maxRecDepth 100000 in
theorem mw_439 : Jvm.Cond.fieldLink "SealedChainModel" (41 : Nat) "SealedChainModel" "last" "[I" ∈ kmW := km_w 439 (by first | rfl | decide +kernel) (by first | rfl | decide +kernel)
set_option maxRecDepth 100000 in
theorem mw_440 : Jvm.Cond.fieldLink "SealedChainModel" (44 : Nat) "SealedChainModel" "retired" "[I" ∈ kmW := km_w 440 (by first | rfl | decide +kernel) (by first | rfl | decide +kernel)
set_option maxRecDepth 100000 in
theorem mw_441 : Jvm.Cond.fieldLink "SealedChainModel" (47 : Nat) "SealedChainModel" "pending" "[I" ∈ kmW := km_w 441 (by first | rfl | decide +kernel) (by first | rfl | decide +kernel)
set_option maxRecDepth 100000 in
theorem mw_442 : Jvm.Cond.fieldLink "SealedChainModel" (50 : Nat) "SealedChainModel" "promised" "[I" ∈ kmW := km_w 442 (by first | rfl | decide +kernel) (by first | rfl | decide +kernel)
set_option maxRecDepth 100000 in
theorem mw_443 : Jvm.Cond.fieldLink "SealedChainModel" (53 : Nat) "SealedChainModel" "voteBallot" "[I" ∈ kmW := km_w 443 (by first | rfl | decide +kernel) (by first | rfl | decide +kernel)
set_option maxRecDepth 100000 in
theorem mw_444 : Jvm.Cond.fieldLink "SealedChainModel" (56 : Nat) "SealedChainModel" "voteCommand" "[I" ∈ kmW := km_w 444 (by first | rfl | decide +kernel) (by first | rfl | decide +kernel)
set_option maxRecDepth 100000 in
theorem mw_445 : Jvm.Cond.fieldLink "SealedChainModel" (59 : Nat) "SealedChainModel" "slot" "[I" ∈ kmW := km_w 445 (by first | rfl | decide +kernel) (by first | rfl | decide +kernel)
set_option maxRecDepth 100000 in
theorem mw_446 : Jvm.Cond.fieldLink "SealedChainModel" (62 : Nat) "SealedChainModel" "ballot" "[I" ∈ kmW := km_w 446 (by first | rfl | decide +kernel) (by first | rfl | decide +kernel)
set_option maxRecDepth 100000 in
theorem mw_447 : Jvm.Cond.fieldLink "SealedChainModel" (65 : Nat) "SealedChainModel" "promisers" "[I" ∈ kmW := km_w 447 (by first | rfl | decide +kernel) (by first | rfl | decide +kernel)
set_option maxRecDepth 100000 in
theorem mw_448 : Jvm.Cond.fieldLink "SealedChainModel" (68 : Nat) "SealedChainModel" "voters" "[I" ∈ kmW := km_w 448 (by first | rfl | decide +kernel) (by first | rfl | decide +kernel)
set_option maxRecDepth 100000 in
theorem mw_449 : Jvm.Cond.fieldLink "SealedChainModel" (71 : Nat) "SealedChainModel" "bestBallot" "[I" ∈ kmW := km_w 449 (by first | rfl | decide +kernel) (by first | rfl | decide +kernel)
set_option maxRecDepth 100000 in
theorem mw_450 : Jvm.Cond.fieldLink "SealedChainModel" (74 : Nat) "SealedChainModel" "bestCommand" "[I" ∈ kmW := km_w 450 (by first | rfl | decide +kernel) (by first | rfl | decide +kernel)
set_option maxRecDepth 100000 in
theorem mw_451 : Jvm.Cond.fieldLink "SealedChainModel" (77 : Nat) "SealedChainModel" "command" "[I" ∈ kmW := km_w 451 (by first | rfl | decide +kernel) (by first | rfl | decide +kernel)
set_option maxRecDepth 100000 in
theorem mw_452 : Jvm.Cond.fieldLink "SealedChainModel" (80 : Nat) "SealedChainModel" "values" "[I" ∈ kmW := km_w 452 (by first | rfl | decide +kernel) (by first | rfl | decide +kernel)
set_option maxRecDepth 100000 in
theorem mw_453 : Jvm.Cond.fieldLink "SealedChainModel" (83 : Nat) "SealedChainModel" "done" "[Z" ∈ kmW := km_w 453 (by first | rfl | decide +kernel) (by first | rfl | decide +kernel)
set_option maxRecDepth 100000 in
theorem mw_454 : Jvm.Cond.fieldLink "SealedChainModel" (87 : Nat) "SealedChainModel" "answers" "[I" ∈ kmW := km_w 454 (by first | rfl | decide +kernel) (by first | rfl | decide +kernel)
set_option maxRecDepth 100000 in
theorem mw_455 : Jvm.Cond.fieldLink "SealedChainModel" (96 : Nat) "SealedChainModel" "members" "I" ∈ kmW := km_w 455 (by first | rfl | decide +kernel) (by first | rfl | decide +kernel)
set_option maxRecDepth 100000 in
theorem mw_456 : Jvm.Cond.fieldLink "SealedChainModel" (93 : Nat) "SealedChainModel" "atC" "I" ∈ kmW := km_w 456 (by first | rfl | decide +kernel) (by first | rfl | decide +kernel)
set_option maxRecDepth 100000 in
theorem mw_457 : Jvm.Cond.fieldLink "SealedChainModel" (90 : Nat) "SealedChainModel" "atE" "I" ∈ kmW := km_w 457 (by first | rfl | decide +kernel) (by first | rfl | decide +kernel)
set_option maxRecDepth 100000 in
theorem mw_526 : Jvm.Cond.methodLink "SealedChainModel" (114 : Nat) y_Md_count ∈ kmW := km_w 526 (by first | rfl | decide +kernel) (by first | rfl | decide +kernel)
set_option maxRecDepth 100000 in
theorem mw_527 : Jvm.Cond.static y_Md_count ∈ kmW := km_w 527 (by first | rfl | decide +kernel) (by first | rfl | decide +kernel)
set_option maxRecDepth 100000 in
theorem mw_528 : Jvm.Cond.code y_Md_count prog_8_method_6_code (3 : Nat) (Option.some Jvm.ClassFile.FieldType.int) ∈ kmW := km_w 528 (by first | rfl | decide +kernel) (by first | rfl | decide +kernel)
set_option maxRecDepth 100000 in
theorem mw_533 : Jvm.Cond.methodLink "SealedChainModel" (117 : Nat) y_Md_node ∈ kmW := km_w 533 (by first | rfl | decide +kernel) (by first | rfl | decide +kernel)
set_option maxRecDepth 100000 in
theorem mw_534 : Jvm.Cond.static y_Md_node ∈ kmW := km_w 534 (by first | rfl | decide +kernel) (by first | rfl | decide +kernel)
set_option maxRecDepth 100000 in
theorem mw_535 : Jvm.Cond.code y_Md_node prog_8_method_9_code (1 : Nat) (Option.some Jvm.ClassFile.FieldType.boolean) ∈ kmW := km_w 535 (by first | rfl | decide +kernel) (by first | rfl | decide +kernel)
set_option maxRecDepth 100000 in
theorem mw_536 : Jvm.Cond.methodLink "SealedChainModel" (132 : Nat) y_Md_isUp ∈ kmW := km_w 536 (by first | rfl | decide +kernel) (by first | rfl | decide +kernel)
set_option maxRecDepth 100000 in
theorem mw_538 : Jvm.Cond.instanceMethod y_Md_isUp ∈ kmW := km_w 538 (by first | rfl | decide +kernel) (by first | rfl | decide +kernel)
set_option maxRecDepth 100000 in
theorem mw_539 : Jvm.Cond.code y_Md_isUp prog_8_method_10_code (2 : Nat) (Option.some Jvm.ClassFile.FieldType.boolean) ∈ kmW := km_w 539 (by first | rfl | decide +kernel) (by first | rfl | decide +kernel)
set_option maxRecDepth 100000 in
theorem mw_540 : Jvm.Cond.methodLink "SealedChainModel" (107 : Nat) y_Md_replayOf ∈ kmW := km_w 540 (by first | rfl | decide +kernel) (by first | rfl | decide +kernel)
set_option maxRecDepth 100000 in
theorem mw_542 : Jvm.Cond.instanceMethod y_Md_replayOf ∈ kmW := km_w 542 (by first | rfl | decide +kernel) (by first | rfl | decide +kernel)
set_option maxRecDepth 100000 in
theorem mw_543 : Jvm.Cond.code y_Md_replayOf prog_8_method_4_code (2 : Nat) (Option.none : Option Jvm.ClassFile.FieldType) ∈ kmW := km_w 543 (by first | rfl | decide +kernel) (by first | rfl | decide +kernel)
set_option maxRecDepth 100000 in
theorem mw_544 : Jvm.Cond.methodLink "SealedChainModel" (103 : Nat) y_Md_replay ∈ kmW := km_w 544 (by first | rfl | decide +kernel) (by first | rfl | decide +kernel)
set_option maxRecDepth 100000 in
theorem mw_546 : Jvm.Cond.instanceMethod y_Md_replay ∈ kmW := km_w 546 (by first | rfl | decide +kernel) (by first | rfl | decide +kernel)
set_option maxRecDepth 100000 in
theorem mw_547 : Jvm.Cond.code y_Md_replay prog_8_method_3_code (4 : Nat) (Option.none : Option Jvm.ClassFile.FieldType) ∈ kmW := km_w 547 (by first | rfl | decide +kernel) (by first | rfl | decide +kernel)
set_option maxRecDepth 100000 in
theorem mw_548 : Jvm.Cond.methodLink "SealedChainModel" (99 : Nat) y_Md_execute ∈ kmW := km_w 548 (by first | rfl | decide +kernel) (by first | rfl | decide +kernel)
set_option maxRecDepth 100000 in
theorem mw_550 : Jvm.Cond.instanceMethod y_Md_execute ∈ kmW := km_w 550 (by first | rfl | decide +kernel) (by first | rfl | decide +kernel)
set_option maxRecDepth 100000 in
theorem mw_551 : Jvm.Cond.code y_Md_execute prog_8_method_2_code (5 : Nat) (Option.none : Option Jvm.ClassFile.FieldType) ∈ kmW := km_w 551 (by first | rfl | decide +kernel) (by first | rfl | decide +kernel)
set_option maxRecDepth 100000 in
theorem mw_552 : Jvm.Cond.methodLink "SealedChainModel" (138 : Nat) y_Md_hear ∈ kmW := km_w 552 (by first | rfl | decide +kernel) (by first | rfl | decide +kernel)
set_option maxRecDepth 100000 in
theorem mw_554 : Jvm.Cond.instanceMethod y_Md_hear ∈ kmW := km_w 554 (by first | rfl | decide +kernel) (by first | rfl | decide +kernel)
set_option maxRecDepth 100000 in
theorem mw_555 : Jvm.Cond.code y_Md_hear prog_8_method_8_code (2 : Nat) (Option.none : Option Jvm.ClassFile.FieldType) ∈ kmW := km_w 555 (by first | rfl | decide +kernel) (by first | rfl | decide +kernel)
set_option maxRecDepth 100000 in
theorem mw_564 : Jvm.Cond.methodLink "SealedChainModel" (121 : Nat) y_Md_knows ∈ kmW := km_w 564 (by first | rfl | decide +kernel) (by first | rfl | decide +kernel)
set_option maxRecDepth 100000 in
theorem mw_566 : Jvm.Cond.instanceMethod y_Md_knows ∈ kmW := km_w 566 (by first | rfl | decide +kernel) (by first | rfl | decide +kernel)
set_option maxRecDepth 100000 in
theorem mw_567 : Jvm.Cond.code y_Md_knows prog_8_method_11_code (3 : Nat) (Option.some Jvm.ClassFile.FieldType.boolean) ∈ kmW := km_w 567 (by first | rfl | decide +kernel) (by first | rfl | decide +kernel)
set_option maxRecDepth 100000 in
theorem mw_568 : Jvm.Cond.constant "SealedChainModel" (141 : Nat) (100000 : Int32) ∈ kmW := km_w 568 (by first | rfl | decide +kernel) (by first | rfl | decide +kernel)
set_option maxRecDepth 100000 in
theorem mw_573 : Jvm.Cond.methodLink "SealedChainModel" (148 : Nat) y_Md_barred ∈ kmW := km_w 573 (by first | rfl | decide +kernel) (by first | rfl | decide +kernel)
set_option maxRecDepth 100000 in
theorem mw_575 : Jvm.Cond.instanceMethod y_Md_barred ∈ kmW := km_w 575 (by first | rfl | decide +kernel) (by first | rfl | decide +kernel)
set_option maxRecDepth 100000 in
theorem mw_576 : Jvm.Cond.code y_Md_barred prog_8_method_19_code (4 : Nat) (Option.some Jvm.ClassFile.FieldType.int) ∈ kmW := km_w 576 (by first | rfl | decide +kernel) (by first | rfl | decide +kernel)
set_option maxRecDepth 100000 in
theorem mw_577 : Jvm.Cond.methodLink "SealedChainModel" (110 : Nat) y_Md_membersOf ∈ kmW := km_w 577 (by first | rfl | decide +kernel) (by first | rfl | decide +kernel)
set_option maxRecDepth 100000 in
theorem mw_579 : Jvm.Cond.instanceMethod y_Md_membersOf ∈ kmW := km_w 579 (by first | rfl | decide +kernel) (by first | rfl | decide +kernel)
set_option maxRecDepth 100000 in
theorem mw_580 : Jvm.Cond.code y_Md_membersOf prog_8_method_5_code (2 : Nat) (Option.some Jvm.ClassFile.FieldType.int) ∈ kmW := km_w 580 (by first | rfl | decide +kernel) (by first | rfl | decide +kernel)
set_option maxRecDepth 100000 in
theorem mw_581 : Jvm.Cond.methodLink "SealedChainModel" (142 : Nat) y_Md_majority ∈ kmW := km_w 581 (by first | rfl | decide +kernel) (by first | rfl | decide +kernel)
set_option maxRecDepth 100000 in
theorem mw_583 : Jvm.Cond.instanceMethod y_Md_majority ∈ kmW := km_w 583 (by first | rfl | decide +kernel) (by first | rfl | decide +kernel)
set_option maxRecDepth 100000 in
theorem mw_584 : Jvm.Cond.code y_Md_majority prog_8_method_7_code (4 : Nat) (Option.some Jvm.ClassFile.FieldType.boolean) ∈ kmW := km_w 584 (by first | rfl | decide +kernel) (by first | rfl | decide +kernel)
set_option maxRecDepth 100000 in
theorem mw_585 : Jvm.Cond.methodLink "SealedChainModel" (152 : Nat) y_Md_answer ∈ kmW := km_w 585 (by first | rfl | decide +kernel) (by first | rfl | decide +kernel)
set_option maxRecDepth 100000 in
theorem mw_587 : Jvm.Cond.instanceMethod y_Md_answer ∈ kmW := km_w 587 (by first | rfl | decide +kernel) (by first | rfl | decide +kernel)
set_option maxRecDepth 100000 in
theorem mw_588 : Jvm.Cond.code y_Md_answer prog_8_method_20_code (5 : Nat) (Option.some Jvm.ClassFile.FieldType.int) ∈ kmW := km_w 588 (by first | rfl | decide +kernel) (by first | rfl | decide +kernel)
set_option maxRecDepth 100000 in
theorem mw_589 : Jvm.Cond.methodLink "SealedChainModel" (145 : Nat) y_Md_install ∈ kmW := km_w 589 (by first | rfl | decide +kernel) (by first | rfl | decide +kernel)
set_option maxRecDepth 100000 in
theorem mw_591 : Jvm.Cond.instanceMethod y_Md_install ∈ kmW := km_w 591 (by first | rfl | decide +kernel) (by first | rfl | decide +kernel)
set_option maxRecDepth 100000 in
theorem mw_592 : Jvm.Cond.code y_Md_install prog_8_method_14_code (3 : Nat) (Option.none : Option Jvm.ClassFile.FieldType) ∈ kmW := km_w 592 (by first | rfl | decide +kernel) (by first | rfl | decide +kernel)
set_option maxRecDepth 100000 in
theorem mw_593 : Jvm.Cond.methodLink "SealedChainModel" (125 : Nat) y_Md_later ∈ kmW := km_w 593 (by first | rfl | decide +kernel) (by first | rfl | decide +kernel)
set_option maxRecDepth 100000 in
theorem mw_595 : Jvm.Cond.instanceMethod y_Md_later ∈ kmW := km_w 595 (by first | rfl | decide +kernel) (by first | rfl | decide +kernel)
set_option maxRecDepth 100000 in
theorem mw_596 : Jvm.Cond.code y_Md_later prog_8_method_13_code (4 : Nat) (Option.some Jvm.ClassFile.FieldType.boolean) ∈ kmW := km_w 596 (by first | rfl | decide +kernel) (by first | rfl | decide +kernel)
set_option maxRecDepth 100000 in
theorem mw_601 : Jvm.Cond.methodLink "SealedChainModel" (155 : Nat) y_Md_choose ∈ kmW := km_w 601 (by first | rfl | decide +kernel) (by first | rfl | decide +kernel)
set_option maxRecDepth 100000 in
theorem mw_603 : Jvm.Cond.instanceMethod y_Md_choose ∈ kmW := km_w 603 (by first | rfl | decide +kernel) (by first | rfl | decide +kernel)
set_option maxRecDepth 100000 in
theorem mw_604 : Jvm.Cond.code y_Md_choose prog_8_method_22_code (3 : Nat) (Option.none : Option Jvm.ClassFile.FieldType) ∈ kmW := km_w 604 (by first | rfl | decide +kernel) (by first | rfl | decide +kernel)
set_option maxRecDepth 100000 in
theorem mw_605 : Jvm.Cond.methodLink "SealedChainModel" (158 : Nat) y_Md_goOn ∈ kmW := km_w 605 (by first | rfl | decide +kernel) (by first | rfl | decide +kernel)
set_option maxRecDepth 100000 in
theorem mw_607 : Jvm.Cond.instanceMethod y_Md_goOn ∈ kmW := km_w 607 (by first | rfl | decide +kernel) (by first | rfl | decide +kernel)
set_option maxRecDepth 100000 in
theorem mw_608 : Jvm.Cond.code y_Md_goOn prog_8_method_12_code (3 : Nat) (Option.none : Option Jvm.ClassFile.FieldType) ∈ kmW := km_w 608 (by first | rfl | decide +kernel) (by first | rfl | decide +kernel)
set_option maxRecDepth 100000 in
theorem mw_637 : Jvm.Cond.methodLink "SealedChainModel" (161 : Nat) y_Md_cell ∈ kmW := km_w 637 (by first | rfl | decide +kernel) (by first | rfl | decide +kernel)
set_option maxRecDepth 100000 in
theorem mw_638 : Jvm.Cond.static y_Md_cell ∈ kmW := km_w 638 (by first | rfl | decide +kernel) (by first | rfl | decide +kernel)
set_option maxRecDepth 100000 in
theorem mw_639 : Jvm.Cond.code y_Md_cell prog_8_method_30_code (3 : Nat) (Option.some Jvm.ClassFile.FieldType.boolean) ∈ kmW := km_w 639 (by first | rfl | decide +kernel) (by first | rfl | decide +kernel)
