def y_Ui : MethodName := ⟨"FragileRules$Unit", "<init>", "()V"⟩
theorem dU_init_0 : decode prog_4_method_1_code 0 = .ok (.aload_n 0, 1) := by decide +kernel
theorem dU_init_1 : decode prog_4_method_1_code 1 = .ok (.invokespecial 1, 3) := by decide +kernel
theorem dU_init_4 : decode prog_4_method_1_code 4 = .ok (.aload_n 0, 1) := by decide +kernel
theorem dU_init_5 : decode prog_4_method_1_code 5 = .ok (.iconst 0, 1) := by decide +kernel
theorem dU_init_6 : decode prog_4_method_1_code 6 = .ok (.putfield 7, 3) := by decide +kernel
theorem dU_init_9 : decode prog_4_method_1_code 9 = .ok (.aload_n 0, 1) := by decide +kernel
theorem dU_init_10 : decode prog_4_method_1_code 10 = .ok (.iconst 0, 1) := by decide +kernel
theorem dU_init_11 : decode prog_4_method_1_code 11 = .ok (.putfield 13, 3) := by decide +kernel
theorem dU_init_14 : decode prog_4_method_1_code 14 = .ok (.aload_n 0, 1) := by decide +kernel
theorem dU_init_15 : decode prog_4_method_1_code 15 = .ok (.iconst 0, 1) := by decide +kernel
theorem dU_init_16 : decode prog_4_method_1_code 16 = .ok (.putfield 16, 3) := by decide +kernel
theorem dU_init_19 : decode prog_4_method_1_code 19 = .ok (.return_, 1) := by decide +kernel
def y_Ri : MethodName := ⟨"FragileRules$Rule", "<init>", "()V"⟩
theorem dR_init_0 : decode prog_2_method_1_code 0 = .ok (.aload_n 0, 1) := by decide +kernel
theorem dR_init_1 : decode prog_2_method_1_code 1 = .ok (.invokespecial 3, 3) := by decide +kernel
theorem dR_init_4 : decode prog_2_method_1_code 4 = .ok (.aload_n 0, 1) := by decide +kernel
theorem dR_init_5 : decode prog_2_method_1_code 5 = .ok (.iconst 0, 1) := by decide +kernel
theorem dR_init_6 : decode prog_2_method_1_code 6 = .ok (.putfield 9, 3) := by decide +kernel
theorem dR_init_9 : decode prog_2_method_1_code 9 = .ok (.aload_n 0, 1) := by decide +kernel
theorem dR_init_10 : decode prog_2_method_1_code 10 = .ok (.iconst 0, 1) := by decide +kernel
theorem dR_init_11 : decode prog_2_method_1_code 11 = .ok (.putfield 15, 3) := by decide +kernel
theorem dR_init_14 : decode prog_2_method_1_code 14 = .ok (.aload_n 0, 1) := by decide +kernel
theorem dR_init_15 : decode prog_2_method_1_code 15 = .ok (.iconst 0, 1) := by decide +kernel
theorem dR_init_16 : decode prog_2_method_1_code 16 = .ok (.putfield 18, 3) := by decide +kernel
theorem dR_init_19 : decode prog_2_method_1_code 19 = .ok (.aload_n 0, 1) := by decide +kernel
theorem dR_init_20 : decode prog_2_method_1_code 20 = .ok (.iconst 0, 1) := by decide +kernel
theorem dR_init_21 : decode prog_2_method_1_code 21 = .ok (.putfield 21, 3) := by decide +kernel
theorem dR_init_24 : decode prog_2_method_1_code 24 = .ok (.return_, 1) := by decide +kernel
def y_Ti : MethodName := ⟨"FragileRules$Text", "<init>", "()V"⟩
theorem dT_init_0 : decode prog_3_method_1_code 0 = .ok (.aload_n 0, 1) := by decide +kernel
theorem dT_init_1 : decode prog_3_method_1_code 1 = .ok (.invokespecial 3, 3) := by decide +kernel
theorem dT_init_4 : decode prog_3_method_1_code 4 = .ok (.aload_n 0, 1) := by decide +kernel
theorem dT_init_5 : decode prog_3_method_1_code 5 = .ok (.sipush 200, 3) := by decide +kernel
theorem dT_init_8 : decode prog_3_method_1_code 8 = .ok (.newarray .int, 2) := by decide +kernel
theorem dT_init_10 : decode prog_3_method_1_code 10 = .ok (.putfield 9, 3) := by decide +kernel
theorem dT_init_13 : decode prog_3_method_1_code 13 = .ok (.aload_n 0, 1) := by decide +kernel
theorem dT_init_14 : decode prog_3_method_1_code 14 = .ok (.iconst 0, 1) := by decide +kernel
theorem dT_init_15 : decode prog_3_method_1_code 15 = .ok (.putfield 15, 3) := by decide +kernel
theorem dT_init_18 : decode prog_3_method_1_code 18 = .ok (.return_, 1) := by decide +kernel
def y_Fi : MethodName := ⟨"FragileRules", "<init>", "()V"⟩
theorem dF_init_0 : decode prog_1_method_1_code 0 = .ok (.aload_n 0, 1) := by decide +kernel
theorem dF_init_1 : decode prog_1_method_1_code 1 = .ok (.invokespecial 1, 3) := by decide +kernel
theorem dF_init_4 : decode prog_1_method_1_code 4 = .ok (.aload_n 0, 1) := by decide +kernel
theorem dF_init_5 : decode prog_1_method_1_code 5 = .ok (.bipush 10, 2) := by decide +kernel
theorem dF_init_7 : decode prog_1_method_1_code 7 = .ok (.anewarray 9, 3) := by decide +kernel
theorem dF_init_10 : decode prog_1_method_1_code 10 = .ok (.putfield 11, 3) := by decide +kernel
theorem dF_init_13 : decode prog_1_method_1_code 13 = .ok (.aload_n 0, 1) := by decide +kernel
theorem dF_init_14 : decode prog_1_method_1_code 14 = .ok (.iconst 0, 1) := by decide +kernel
theorem dF_init_15 : decode prog_1_method_1_code 15 = .ok (.putfield 15, 3) := by decide +kernel
theorem dF_init_18 : decode prog_1_method_1_code 18 = .ok (.aload_n 0, 1) := by decide +kernel
theorem dF_init_19 : decode prog_1_method_1_code 19 = .ok (.bipush 12, 2) := by decide +kernel
theorem dF_init_21 : decode prog_1_method_1_code 21 = .ok (.anewarray 19, 3) := by decide +kernel
theorem dF_init_24 : decode prog_1_method_1_code 24 = .ok (.putfield 21, 3) := by decide +kernel
theorem dF_init_27 : decode prog_1_method_1_code 27 = .ok (.aload_n 0, 1) := by decide +kernel
theorem dF_init_28 : decode prog_1_method_1_code 28 = .ok (.iconst 0, 1) := by decide +kernel
theorem dF_init_29 : decode prog_1_method_1_code 29 = .ok (.putfield 25, 3) := by decide +kernel
theorem dF_init_32 : decode prog_1_method_1_code 32 = .ok (.aload_n 0, 1) := by decide +kernel
theorem dF_init_33 : decode prog_1_method_1_code 33 = .ok (.bipush 12, 2) := by decide +kernel
theorem dF_init_35 : decode prog_1_method_1_code 35 = .ok (.newarray .int, 2) := by decide +kernel
theorem dF_init_37 : decode prog_1_method_1_code 37 = .ok (.putfield 28, 3) := by decide +kernel
theorem dF_init_40 : decode prog_1_method_1_code 40 = .ok (.aload_n 0, 1) := by decide +kernel
theorem dF_init_41 : decode prog_1_method_1_code 41 = .ok (.bipush 12, 2) := by decide +kernel
theorem dF_init_43 : decode prog_1_method_1_code 43 = .ok (.newarray .int, 2) := by decide +kernel
theorem dF_init_45 : decode prog_1_method_1_code 45 = .ok (.putfield 32, 3) := by decide +kernel
theorem dF_init_48 : decode prog_1_method_1_code 48 = .ok (.aload_n 0, 1) := by decide +kernel
theorem dF_init_49 : decode prog_1_method_1_code 49 = .ok (.iconst 0, 1) := by decide +kernel
theorem dF_init_50 : decode prog_1_method_1_code 50 = .ok (.putfield 35, 3) := by decide +kernel
theorem dF_init_53 : decode prog_1_method_1_code 53 = .ok (.aload_n 0, 1) := by decide +kernel
theorem dF_init_54 : decode prog_1_method_1_code 54 = .ok (.new 38, 3) := by decide +kernel
theorem dF_init_57 : decode prog_1_method_1_code 57 = .ok (.dup, 1) := by decide +kernel
theorem dF_init_58 : decode prog_1_method_1_code 58 = .ok (.invokespecial 40, 3) := by decide +kernel
theorem dF_init_61 : decode prog_1_method_1_code 61 = .ok (.putfield 41, 3) := by decide +kernel
theorem dF_init_64 : decode prog_1_method_1_code 64 = .ok (.aload_n 0, 1) := by decide +kernel
theorem dF_init_65 : decode prog_1_method_1_code 65 = .ok (.iconst 0, 1) := by decide +kernel
theorem dF_init_66 : decode prog_1_method_1_code 66 = .ok (.putfield 45, 3) := by decide +kernel
theorem dF_init_69 : decode prog_1_method_1_code 69 = .ok (.aload_n 0, 1) := by decide +kernel
theorem dF_init_70 : decode prog_1_method_1_code 70 = .ok (.iconst 0, 1) := by decide +kernel
theorem dF_init_71 : decode prog_1_method_1_code 71 = .ok (.putfield 48, 3) := by decide +kernel
theorem dF_init_74 : decode prog_1_method_1_code 74 = .ok (.iconst 0, 1) := by decide +kernel
theorem dF_init_75 : decode prog_1_method_1_code 75 = .ok (.istore_n 1, 1) := by decide +kernel
theorem dF_init_76 : decode prog_1_method_1_code 76 = .ok (.iload_n 1, 1) := by decide +kernel
theorem dF_init_77 : decode prog_1_method_1_code 77 = .ok (.bipush 10, 2) := by decide +kernel
theorem dF_init_79 : decode prog_1_method_1_code 79 = .ok (.if_icmp .ge 22, 3) := by decide +kernel
theorem dF_init_82 : decode prog_1_method_1_code 82 = .ok (.aload_n 0, 1) := by decide +kernel
theorem dF_init_83 : decode prog_1_method_1_code 83 = .ok (.getfield 11, 3) := by decide +kernel
theorem dF_init_86 : decode prog_1_method_1_code 86 = .ok (.iload_n 1, 1) := by decide +kernel
theorem dF_init_87 : decode prog_1_method_1_code 87 = .ok (.new 9, 3) := by decide +kernel
theorem dF_init_90 : decode prog_1_method_1_code 90 = .ok (.dup, 1) := by decide +kernel
theorem dF_init_91 : decode prog_1_method_1_code 91 = .ok (.invokespecial 51, 3) := by decide +kernel
theorem dF_init_94 : decode prog_1_method_1_code 94 = .ok (.aastore, 1) := by decide +kernel
theorem dF_init_95 : decode prog_1_method_1_code 95 = .ok (.iinc 1 1, 3) := by decide +kernel
theorem dF_init_98 : decode prog_1_method_1_code 98 = .ok (.goto (-22), 3) := by decide +kernel
theorem dF_init_101 : decode prog_1_method_1_code 101 = .ok (.iconst 0, 1) := by decide +kernel
theorem dF_init_102 : decode prog_1_method_1_code 102 = .ok (.istore_n 1, 1) := by decide +kernel
theorem dF_init_103 : decode prog_1_method_1_code 103 = .ok (.iload_n 1, 1) := by decide +kernel
theorem dF_init_104 : decode prog_1_method_1_code 104 = .ok (.bipush 12, 2) := by decide +kernel
theorem dF_init_106 : decode prog_1_method_1_code 106 = .ok (.if_icmp .ge 22, 3) := by decide +kernel
theorem dF_init_109 : decode prog_1_method_1_code 109 = .ok (.aload_n 0, 1) := by decide +kernel
theorem dF_init_110 : decode prog_1_method_1_code 110 = .ok (.getfield 21, 3) := by decide +kernel
theorem dF_init_113 : decode prog_1_method_1_code 113 = .ok (.iload_n 1, 1) := by decide +kernel
theorem dF_init_114 : decode prog_1_method_1_code 114 = .ok (.new 19, 3) := by decide +kernel
theorem dF_init_117 : decode prog_1_method_1_code 117 = .ok (.dup, 1) := by decide +kernel
theorem dF_init_118 : decode prog_1_method_1_code 118 = .ok (.invokespecial 52, 3) := by decide +kernel
theorem dF_init_121 : decode prog_1_method_1_code 121 = .ok (.aastore, 1) := by decide +kernel
theorem dF_init_122 : decode prog_1_method_1_code 122 = .ok (.iinc 1 1, 3) := by decide +kernel
theorem dF_init_125 : decode prog_1_method_1_code 125 = .ok (.goto (-22), 3) := by decide +kernel
theorem dF_init_128 : decode prog_1_method_1_code 128 = .ok (.return_, 1) := by decide +kernel
def y_Mi : MethodName := ⟨"FragileRulesModel", "<init>", "()V"⟩
theorem dM_init_0 : decode prog_6_method_1_code 0 = .ok (.aload_n 0, 1) := by decide +kernel
theorem dM_init_1 : decode prog_6_method_1_code 1 = .ok (.invokespecial 1, 3) := by decide +kernel
theorem dM_init_4 : decode prog_6_method_1_code 4 = .ok (.aload_n 0, 1) := by decide +kernel
theorem dM_init_5 : decode prog_6_method_1_code 5 = .ok (.bipush 10, 2) := by decide +kernel
theorem dM_init_7 : decode prog_6_method_1_code 7 = .ok (.newarray .int, 2) := by decide +kernel
theorem dM_init_9 : decode prog_6_method_1_code 9 = .ok (.putfield 7, 3) := by decide +kernel
theorem dM_init_12 : decode prog_6_method_1_code 12 = .ok (.aload_n 0, 1) := by decide +kernel
theorem dM_init_13 : decode prog_6_method_1_code 13 = .ok (.bipush 10, 2) := by decide +kernel
theorem dM_init_15 : decode prog_6_method_1_code 15 = .ok (.newarray .int, 2) := by decide +kernel
theorem dM_init_17 : decode prog_6_method_1_code 17 = .ok (.putfield 13, 3) := by decide +kernel
theorem dM_init_20 : decode prog_6_method_1_code 20 = .ok (.aload_n 0, 1) := by decide +kernel
theorem dM_init_21 : decode prog_6_method_1_code 21 = .ok (.bipush 10, 2) := by decide +kernel
theorem dM_init_23 : decode prog_6_method_1_code 23 = .ok (.newarray .int, 2) := by decide +kernel
theorem dM_init_25 : decode prog_6_method_1_code 25 = .ok (.putfield 16, 3) := by decide +kernel
theorem dM_init_28 : decode prog_6_method_1_code 28 = .ok (.aload_n 0, 1) := by decide +kernel
theorem dM_init_29 : decode prog_6_method_1_code 29 = .ok (.bipush 12, 2) := by decide +kernel
theorem dM_init_31 : decode prog_6_method_1_code 31 = .ok (.newarray .int, 2) := by decide +kernel
theorem dM_init_33 : decode prog_6_method_1_code 33 = .ok (.putfield 19, 3) := by decide +kernel
theorem dM_init_36 : decode prog_6_method_1_code 36 = .ok (.aload_n 0, 1) := by decide +kernel
theorem dM_init_37 : decode prog_6_method_1_code 37 = .ok (.bipush 12, 2) := by decide +kernel
theorem dM_init_39 : decode prog_6_method_1_code 39 = .ok (.newarray .int, 2) := by decide +kernel
theorem dM_init_41 : decode prog_6_method_1_code 41 = .ok (.putfield 22, 3) := by decide +kernel
theorem dM_init_44 : decode prog_6_method_1_code 44 = .ok (.aload_n 0, 1) := by decide +kernel
theorem dM_init_45 : decode prog_6_method_1_code 45 = .ok (.bipush 12, 2) := by decide +kernel
theorem dM_init_47 : decode prog_6_method_1_code 47 = .ok (.newarray .int, 2) := by decide +kernel
theorem dM_init_49 : decode prog_6_method_1_code 49 = .ok (.putfield 25, 3) := by decide +kernel
theorem dM_init_52 : decode prog_6_method_1_code 52 = .ok (.aload_n 0, 1) := by decide +kernel
theorem dM_init_53 : decode prog_6_method_1_code 53 = .ok (.bipush 12, 2) := by decide +kernel
theorem dM_init_55 : decode prog_6_method_1_code 55 = .ok (.newarray .int, 2) := by decide +kernel
theorem dM_init_57 : decode prog_6_method_1_code 57 = .ok (.putfield 28, 3) := by decide +kernel
theorem dM_init_60 : decode prog_6_method_1_code 60 = .ok (.aload_n 0, 1) := by decide +kernel
theorem dM_init_61 : decode prog_6_method_1_code 61 = .ok (.bipush 12, 2) := by decide +kernel
theorem dM_init_63 : decode prog_6_method_1_code 63 = .ok (.newarray .int, 2) := by decide +kernel
theorem dM_init_65 : decode prog_6_method_1_code 65 = .ok (.putfield 31, 3) := by decide +kernel
theorem dM_init_68 : decode prog_6_method_1_code 68 = .ok (.aload_n 0, 1) := by decide +kernel
theorem dM_init_69 : decode prog_6_method_1_code 69 = .ok (.sipush 200, 3) := by decide +kernel
theorem dM_init_72 : decode prog_6_method_1_code 72 = .ok (.newarray .int, 2) := by decide +kernel
theorem dM_init_74 : decode prog_6_method_1_code 74 = .ok (.putfield 34, 3) := by decide +kernel
theorem dM_init_77 : decode prog_6_method_1_code 77 = .ok (.aload_n 0, 1) := by decide +kernel
theorem dM_init_78 : decode prog_6_method_1_code 78 = .ok (.bipush 12, 2) := by decide +kernel
theorem dM_init_80 : decode prog_6_method_1_code 80 = .ok (.newarray .int, 2) := by decide +kernel
theorem dM_init_82 : decode prog_6_method_1_code 82 = .ok (.putfield 37, 3) := by decide +kernel
theorem dM_init_85 : decode prog_6_method_1_code 85 = .ok (.return_, 1) := by decide +kernel
theorem mi_oinit : Cond.instanceMethod ⟨"java/lang/Object", "<init>", "()V"⟩ ∈ fr_tbl := fr_in 45 (by decide +kernel) rfl
theorem mc_oinit : Cond.code ⟨"java/lang/Object", "<init>", "()V"⟩ object_method_1_code 1 (none : Option Jvm.ClassFile.FieldType) ∈ fr_tbl := fr_in 46 (by decide +kernel) rfl
theorem ac_int : Cond.arrayClass FieldType.int ∈ fr_tbl := fr_in 66 (by decide +kernel) rfl
theorem ac_long : Cond.arrayClass FieldType.long ∈ fr_tbl := fr_in 680 (by decide +kernel) rfl
theorem oi_Ui : Cond.methodLink "FragileRules$Unit" 1 ⟨"java/lang/Object", "<init>", "()V"⟩ ∈ fr_tbl := fr_in 71 (by decide +kernel) rfl
theorem fl_U_7 : Cond.fieldLink "FragileRules$Unit" 7 "FragileRules$Unit" "kind" "I" ∈ fr_tbl := fr_in 72 (by decide +kernel) rfl
theorem fl_U_13 : Cond.fieldLink "FragileRules$Unit" 13 "FragileRules$Unit" "weight" "I" ∈ fr_tbl := fr_in 75 (by decide +kernel) rfl
theorem oi_Ri : Cond.methodLink "FragileRules$Rule" 3 ⟨"java/lang/Object", "<init>", "()V"⟩ ∈ fr_tbl := fr_in 91 (by decide +kernel) rfl
theorem fl_R_21 : Cond.fieldLink "FragileRules$Rule" 21 "FragileRules$Rule" "refusals" "I" ∈ fr_tbl := fr_in 98 (by decide +kernel) rfl
theorem oi_Ti : Cond.methodLink "FragileRules$Text" 3 ⟨"java/lang/Object", "<init>", "()V"⟩ ∈ fr_tbl := fr_in 56 (by decide +kernel) rfl
theorem oi_Mi : Cond.methodLink "FragileRulesModel" 1 ⟨"java/lang/Object", "<init>", "()V"⟩ ∈ fr_tbl := fr_in 471 (by decide +kernel) rfl
theorem cl0_F_9 : Cond.classLink "FragileRules" 9 "FragileRules$Unit" ∈ fr_tbl := fr_in 47 (by decide +kernel) rfl
theorem cl0_F_19 : Cond.classLink "FragileRules" 19 "FragileRules$Rule" ∈ fr_tbl := fr_in 49 (by decide +kernel) rfl
theorem cl0_F_38 : Cond.classLink "FragileRules" 38 "FragileRules$Text" ∈ fr_tbl := fr_in 51 (by decide +kernel) rfl
theorem mins_Ui : Cond.instantiable "FragileRules$Unit" 3 ∈ fr_tbl := fr_in 67 (by decide +kernel) rfl
theorem mins_Ri : Cond.instantiable "FragileRules$Rule" 4 ∈ fr_tbl := fr_in 87 (by decide +kernel) rfl
theorem mins_Ti : Cond.instantiable "FragileRules$Text" 2 ∈ fr_tbl := fr_in 52 (by decide +kernel) rfl
theorem mi_Ui : Cond.instanceMethod ⟨"FragileRules$Unit", "<init>", "()V"⟩ ∈ fr_tbl := fr_in 69 (by decide +kernel) rfl
theorem mi_Ri : Cond.instanceMethod ⟨"FragileRules$Rule", "<init>", "()V"⟩ ∈ fr_tbl := fr_in 89 (by decide +kernel) rfl
theorem mi_Ti : Cond.instanceMethod ⟨"FragileRules$Text", "<init>", "()V"⟩ ∈ fr_tbl := fr_in 54 (by decide +kernel) rfl
theorem mi_Fi : Cond.instanceMethod ⟨"FragileRules", "<init>", "()V"⟩ ∈ fr_tbl := fr_in 42 (by decide +kernel) rfl
theorem mi_Mi : Cond.instanceMethod ⟨"FragileRulesModel", "<init>", "()V"⟩ ∈ fr_tbl := fr_in 469 (by decide +kernel) rfl
theorem mc_Ui : Cond.code ⟨"FragileRules$Unit", "<init>", "()V"⟩ prog_4_method_1_code 1 (none : Option Jvm.ClassFile.FieldType) ∈ fr_tbl := fr_in 70 (by decide +kernel) rfl
theorem mc_Ri : Cond.code ⟨"FragileRules$Rule", "<init>", "()V"⟩ prog_2_method_1_code 1 (none : Option Jvm.ClassFile.FieldType) ∈ fr_tbl := fr_in 90 (by decide +kernel) rfl
theorem mc_Ti : Cond.code ⟨"FragileRules$Text", "<init>", "()V"⟩ prog_3_method_1_code 1 (none : Option Jvm.ClassFile.FieldType) ∈ fr_tbl := fr_in 55 (by decide +kernel) rfl
theorem mc_Fi : Cond.code ⟨"FragileRules", "<init>", "()V"⟩ prog_1_method_1_code 2 (none : Option Jvm.ClassFile.FieldType) ∈ fr_tbl := fr_in 43 (by decide +kernel) rfl
theorem mc_Mi : Cond.code ⟨"FragileRulesModel", "<init>", "()V"⟩ prog_6_method_1_code 1 (none : Option Jvm.ClassFile.FieldType) ∈ fr_tbl := fr_in 470 (by decide +kernel) rfl
theorem oi_Fi : Cond.methodLink "FragileRules" 1 ⟨"java/lang/Object", "<init>", "()V"⟩ ∈ fr_tbl := fr_in 44 (by decide +kernel) rfl
theorem nst_F_40 : Cond.methodLinkNest "FragileRules" 40 ⟨"FragileRules$Text", "<init>", "()V"⟩ "FragileRules" ∈ fr_nw := by decide +kernel
theorem nst_F_51 : Cond.methodLinkNest "FragileRules" 51 ⟨"FragileRules$Unit", "<init>", "()V"⟩ "FragileRules" ∈ fr_nw := by decide +kernel
theorem nst_F_52 : Cond.methodLinkNest "FragileRules" 52 ⟨"FragileRules$Rule", "<init>", "()V"⟩ "FragileRules" ∈ fr_nw := by decide +kernel
theorem av_U : Cond.arrayOver (.object "FragileRules$Unit") ∈ fr_nw := by decide +kernel
theorem av_R : Cond.arrayOver (.object "FragileRules$Rule") ∈ fr_nw := by decide +kernel
