/-! words that the walks take of the tables -/
set_option maxRecDepth 100000 in
theorem mw_17 : Jvm.Cond.methodLink "SealedChain" (1 : Nat) y_Jo_init ∈ kmW := km_w 17 (by first | rfl | decide +kernel) (by first | rfl | decide +kernel)
set_option maxRecDepth 100000 in
theorem mw_18 : Jvm.Cond.instanceMethod y_Jo_init ∈ kmW := km_w 18 (by first | rfl | decide +kernel) (by first | rfl | decide +kernel)
set_option maxRecDepth 100000 in
theorem mw_19 : Jvm.Cond.code y_Jo_init object_method_1_code (1 : Nat) (Option.none : Option Jvm.ClassFile.FieldType) ∈ kmW := km_w 19 (by first | rfl | decide +kernel) (by first | rfl | decide +kernel)
set_option maxRecDepth 100000 in
theorem mw_20 : Jvm.Cond.classLink "SealedChain" (9 : Nat) "SealedChain$Node" ∈ kmW := km_w 20 (by first | rfl | decide +kernel) (by first | rfl | decide +kernel)
set_option maxRecDepth 100000 in
theorem mw_22 : Jvm.Cond.instantiable "SealedChain$Node" (9 : Nat) ∈ kmW := km_w 22 (by first | rfl | decide +kernel) (by first | rfl | decide +kernel)
set_option maxRecDepth 100000 in
theorem mw_24 : Jvm.Cond.instanceMethod y_Nd_init ∈ kmW := km_w 24 (by first | rfl | decide +kernel) (by first | rfl | decide +kernel)
set_option maxRecDepth 100000 in
theorem mw_25 : Jvm.Cond.code y_Nd_init prog_4_method_1_code (2 : Nat) (Option.none : Option Jvm.ClassFile.FieldType) ∈ kmW := km_w 25 (by first | rfl | decide +kernel) (by first | rfl | decide +kernel)
set_option maxRecDepth 100000 in
theorem mw_26 : Jvm.Cond.methodLink "SealedChain$Node" (3 : Nat) y_Jo_init ∈ kmW := km_w 26 (by first | rfl | decide +kernel) (by first | rfl | decide +kernel)
set_option maxRecDepth 100000 in
theorem mw_27 : Jvm.Cond.classLink "SealedChain$Node" (15 : Nat) "SealedChain$State" ∈ kmW := km_w 27 (by first | rfl | decide +kernel) (by first | rfl | decide +kernel)
set_option maxRecDepth 100000 in
theorem mw_28 : Jvm.Cond.instantiable "SealedChain$State" (6 : Nat) ∈ kmW := km_w 28 (by first | rfl | decide +kernel) (by first | rfl | decide +kernel)
set_option maxRecDepth 100000 in
theorem mw_30 : Jvm.Cond.instanceMethod y_St_init ∈ kmW := km_w 30 (by first | rfl | decide +kernel) (by first | rfl | decide +kernel)
set_option maxRecDepth 100000 in
theorem mw_31 : Jvm.Cond.code y_St_init prog_6_method_1_code (1 : Nat) (Option.none : Option Jvm.ClassFile.FieldType) ∈ kmW := km_w 31 (by first | rfl | decide +kernel) (by first | rfl | decide +kernel)
set_option maxRecDepth 100000 in
theorem mw_32 : Jvm.Cond.methodLink "SealedChain$State" (3 : Nat) y_Jo_init ∈ kmW := km_w 32 (by first | rfl | decide +kernel) (by first | rfl | decide +kernel)
set_option maxRecDepth 100000 in
theorem mw_59 : Jvm.Cond.arrayClass Jvm.ClassFile.FieldType.int ∈ kmW := km_w 59 (by first | rfl | decide +kernel) (by first | rfl | decide +kernel)
set_option maxRecDepth 100000 in
theorem mw_60 : Jvm.Cond.classLink "SealedChain$Node" (22 : Nat) "SealedChain$Ledger" ∈ kmW := km_w 60 (by first | rfl | decide +kernel) (by first | rfl | decide +kernel)
set_option maxRecDepth 100000 in
theorem mw_61 : Jvm.Cond.instantiable "SealedChain$Ledger" (3 : Nat) ∈ kmW := km_w 61 (by first | rfl | decide +kernel) (by first | rfl | decide +kernel)
set_option maxRecDepth 100000 in
theorem mw_63 : Jvm.Cond.instanceMethod y_Lg_init ∈ kmW := km_w 63 (by first | rfl | decide +kernel) (by first | rfl | decide +kernel)
set_option maxRecDepth 100000 in
theorem mw_64 : Jvm.Cond.code y_Lg_init prog_3_method_1_code (1 : Nat) (Option.none : Option Jvm.ClassFile.FieldType) ∈ kmW := km_w 64 (by first | rfl | decide +kernel) (by first | rfl | decide +kernel)
set_option maxRecDepth 100000 in
theorem mw_65 : Jvm.Cond.methodLink "SealedChain$Ledger" (3 : Nat) y_Jo_init ∈ kmW := km_w 65 (by first | rfl | decide +kernel) (by first | rfl | decide +kernel)
set_option maxRecDepth 100000 in
theorem mw_79 : Jvm.Cond.classLink "SealedChain$Node" (43 : Nat) "SealedChain$Attempt" ∈ kmW := km_w 79 (by first | rfl | decide +kernel) (by first | rfl | decide +kernel)
set_option maxRecDepth 100000 in
theorem mw_80 : Jvm.Cond.instantiable "SealedChain$Attempt" (7 : Nat) ∈ kmW := km_w 80 (by first | rfl | decide +kernel) (by first | rfl | decide +kernel)
set_option maxRecDepth 100000 in
theorem mw_82 : Jvm.Cond.instanceMethod y_At_init ∈ kmW := km_w 82 (by first | rfl | decide +kernel) (by first | rfl | decide +kernel)
set_option maxRecDepth 100000 in
theorem mw_83 : Jvm.Cond.code y_At_init prog_2_method_1_code (1 : Nat) (Option.none : Option Jvm.ClassFile.FieldType) ∈ kmW := km_w 83 (by first | rfl | decide +kernel) (by first | rfl | decide +kernel)
set_option maxRecDepth 100000 in
theorem mw_84 : Jvm.Cond.methodLink "SealedChain$Attempt" (3 : Nat) y_Jo_init ∈ kmW := km_w 84 (by first | rfl | decide +kernel) (by first | rfl | decide +kernel)
set_option maxRecDepth 100000 in
theorem mw_125 : Jvm.Cond.fieldLink "SealedChain$Node" (25 : Nat) "SealedChain$Node" "ledger" "LSealedChain$Ledger;" ∈ kmW := km_w 125 (by first | rfl | decide +kernel) (by first | rfl | decide +kernel)
set_option maxRecDepth 100000 in
theorem mw_129 : Jvm.Cond.fieldLink "SealedChain$Node" (33 : Nat) "SealedChain$Node" "retired" "I" ∈ kmW := km_w 129 (by first | rfl | decide +kernel) (by first | rfl | decide +kernel)
set_option maxRecDepth 100000 in
theorem mw_156 : Jvm.Cond.classLink "SealedChain" (18 : Nat) "SealedChain$RequestBook" ∈ kmW := km_w 156 (by first | rfl | decide +kernel) (by first | rfl | decide +kernel)
set_option maxRecDepth 100000 in
theorem mw_157 : Jvm.Cond.instantiable "SealedChain$RequestBook" (4 : Nat) ∈ kmW := km_w 157 (by first | rfl | decide +kernel) (by first | rfl | decide +kernel)
set_option maxRecDepth 100000 in
theorem mw_159 : Jvm.Cond.instanceMethod y_Bk_init ∈ kmW := km_w 159 (by first | rfl | decide +kernel) (by first | rfl | decide +kernel)
set_option maxRecDepth 100000 in
theorem mw_160 : Jvm.Cond.code y_Bk_init prog_5_method_1_code (1 : Nat) (Option.none : Option Jvm.ClassFile.FieldType) ∈ kmW := km_w 160 (by first | rfl | decide +kernel) (by first | rfl | decide +kernel)
set_option maxRecDepth 100000 in
theorem mw_161 : Jvm.Cond.methodLink "SealedChain$RequestBook" (3 : Nat) y_Jo_init ∈ kmW := km_w 161 (by first | rfl | decide +kernel) (by first | rfl | decide +kernel)
set_option maxRecDepth 100000 in
theorem mw_426 : Jvm.Cond.methodLink "SealedChainModel" (1 : Nat) y_Jo_init ∈ kmW := km_w 426 (by first | rfl | decide +kernel) (by first | rfl | decide +kernel)
set_option maxRecDepth 100000 in
theorem mw_521 : Jvm.Cond.arrayClass Jvm.ClassFile.FieldType.boolean ∈ kmW := km_w 521 (by first | rfl | decide +kernel) (by first | rfl | decide +kernel)
