set_option maxRecDepth 20000 in
theorem se_yX5_wordToken : Cond.selects RX5 yX5_wordToken yX5_wordToken ∈ TBL := tb_0 0 rfl rfl
set_option maxRecDepth 20000 in
theorem se_yX5_spells : Cond.selects RX5 yX5_spells yX5_spells ∈ TBL := tb_0 1 rfl rfl
set_option maxRecDepth 20000 in
theorem se_yX5_numberToken : Cond.selects RX5 yX5_numberToken yX5_numberToken ∈ TBL := tb_0 2 rfl rfl
set_option maxRecDepth 20000 in
theorem se_yX2_readPart : Cond.selects RX2 yX2_readPart yX2_readPart ∈ TBL := tb_0 3 rfl rfl
set_option maxRecDepth 20000 in
theorem se_yX2_readToken : Cond.selects RX2 yX2_readToken yX2_readToken ∈ TBL := tb_0 4 rfl rfl
set_option maxRecDepth 20000 in
theorem se_yX2_readOr : Cond.selects RX2 yX2_readOr yX2_readOr ∈ TBL := tb_0 5 rfl rfl
set_option maxRecDepth 20000 in
theorem se_yX2_readAnd : Cond.selects RX2 yX2_readAnd yX2_readAnd ∈ TBL := tb_0 6 rfl rfl
set_option maxRecDepth 20000 in
theorem se_yX2_readNot : Cond.selects RX2 yX2_readNot yX2_readNot ∈ TBL := tb_0 7 rfl rfl
set_option maxRecDepth 20000 in
theorem se_yX2_write : Cond.selects RX2 yX2_write yX2_write ∈ TBL := tb_0 8 rfl rfl
set_option maxRecDepth 20000 in
theorem se_yX2_readSum : Cond.selects RX2 yX2_readSum yX2_readSum ∈ TBL := tb_0 9 rfl rfl
set_option maxRecDepth 20000 in
theorem se_yX2_readTerm : Cond.selects RX2 yX2_readTerm yX2_readTerm ∈ TBL := tb_0 10 rfl rfl
set_option maxRecDepth 20000 in
theorem se_yX2_readOne : Cond.selects RX2 yX2_readOne yX2_readOne ∈ TBL := tb_0 11 rfl rfl
set_option maxRecDepth 20000 in
theorem se_yX7_think : Cond.selects RX7 yX7_think yX7_think ∈ TBL := tb_0 12 rfl rfl
set_option maxRecDepth 20000 in
theorem se_yX7_refusalOfTale : Cond.selects RX7 yX7_refusalOfTale yX7_refusalOfTale ∈ TBL := tb_0 13 rfl rfl
set_option maxRecDepth 20000 in
theorem se_yX7_firstOther : Cond.selects RX7 yX7_firstOther yX7_firstOther ∈ TBL := tb_0 14 rfl rfl
set_option maxRecDepth 20000 in
theorem se_yX7_actsByLots : Cond.selects RX7 yX7_actsByLots yX7_actsByLots ∈ TBL := tb_0 15 rfl rfl
set_option maxRecDepth 20000 in
theorem se_yX8_next : Cond.selects RX8 yX8_next yX8_next ∈ TBL := tb_0 16 rfl rfl
set_option maxRecDepth 20000 in
theorem se_yX8_wordFrom : Cond.selects RX8 yX8_wordFrom yX8_wordFrom ∈ TBL := tb_0 17 rfl rfl
set_option maxRecDepth 20000 in
theorem se_yX8_eRead : Cond.selects RX8 yX8_eRead yX8_eRead ∈ TBL := tb_0 18 rfl rfl
set_option maxRecDepth 20000 in
theorem se_yX8_puts : Cond.selects RX8 yX8_puts yX8_puts ∈ TBL := tb_0 19 rfl rfl
set_option maxRecDepth 20000 in
theorem se_yX8_unwinds : Cond.selects RX8 yX8_unwinds yX8_unwinds ∈ TBL := tb_0 20 rfl rfl
set_option maxRecDepth 20000 in
theorem se_yX8_opensOne : Cond.selects RX8 yX8_opensOne yX8_opensOne ∈ TBL := tb_0 21 rfl rfl
set_option maxRecDepth 20000 in
theorem se_yX8_holds : Cond.selects RX8 yX8_holds yX8_holds ∈ TBL := tb_0 22 rfl rfl
set_option maxRecDepth 20000 in
theorem se_yX8_signOf : Cond.selects RX8 yX8_signOf yX8_signOf ∈ TBL := tb_0 23 rfl rfl
set_option maxRecDepth 20000 in
theorem se_yX8_between : Cond.selects RX8 yX8_between yX8_between ∈ TBL := tb_0 24 rfl rfl
set_option maxRecDepth 20000 in
theorem se_yX8_stuckSet : Cond.selects RX8 yX8_stuckSet yX8_stuckSet ∈ TBL := tb_0 25 rfl rfl
set_option maxRecDepth 20000 in
theorem se_yX8_isStuck : Cond.selects RX8 yX8_isStuck yX8_isStuck ∈ TBL := tb_0 26 rfl rfl
set_option maxRecDepth 20000 in
theorem se_yX8_actOf : Cond.selects RX8 yX8_actOf yX8_actOf ∈ TBL := tb_0 27 rfl rfl
set_option maxRecDepth 20000 in
theorem se_yX8_mindSet : Cond.selects RX8 yX8_mindSet yX8_mindSet ∈ TBL := tb_0 28 rfl rfl
set_option maxRecDepth 20000 in
theorem se_yX8_asksOf : Cond.selects RX8 yX8_asksOf yX8_asksOf ∈ TBL := tb_0 29 rfl rfl
set_option maxRecDepth 20000 in
theorem se_yX8_says : Cond.selects RX8 yX8_says yX8_says ∈ TBL := tb_0 30 rfl rfl
set_option maxRecDepth 20000 in
theorem se_yX8_isOne : Cond.selects RX8 yX8_isOne yX8_isOne ∈ TBL := tb_0 31 rfl rfl
set_option maxRecDepth 20000 in
theorem se_yX8_tellsOf : Cond.selects RX8 yX8_tellsOf yX8_tellsOf ∈ TBL := tb_0 32 rfl rfl
set_option maxRecDepth 20000 in
theorem se_yX8_eatsOf : Cond.selects RX8 yX8_eatsOf yX8_eatsOf ∈ TBL := tb_0 33 rfl rfl
set_option maxRecDepth 20000 in
theorem se_yX8_ateAll : Cond.selects RX8 yX8_ateAll yX8_ateAll ∈ TBL := tb_0 34 rfl rfl
set_option maxRecDepth 20000 in
theorem se_yX8_minuteOf : Cond.selects RX8 yX8_minuteOf yX8_minuteOf ∈ TBL := tb_0 35 rfl rfl
set_option maxRecDepth 20000 in
theorem se_yX8_doesAct : Cond.selects RX8 yX8_doesAct yX8_doesAct ∈ TBL := tb_0 36 rfl rfl
set_option maxRecDepth 20000 in
theorem se_yX8_changes : Cond.selects RX8 yX8_changes yX8_changes ∈ TBL := tb_0 37 rfl rfl
set_option maxRecDepth 20000 in
theorem se_yX8_keeps : Cond.selects RX8 yX8_keeps yX8_keeps ∈ TBL := tb_0 38 rfl rfl
set_option maxRecDepth 20000 in
theorem se_yX8_passes : Cond.selects RX8 yX8_passes yX8_passes ∈ TBL := tb_0 39 rfl rfl
set_option maxRecDepth 20000 in
theorem se_yX8_lays : Cond.selects RX8 yX8_lays yX8_lays ∈ TBL := tb_0 40 rfl rfl
set_option maxRecDepth 20000 in
theorem se_yX8_stuckBehind : Cond.selects RX8 yX8_stuckBehind yX8_stuckBehind ∈ TBL := tb_0 41 rfl rfl
set_option maxRecDepth 20000 in
theorem se_yX8_ateBehind : Cond.selects RX8 yX8_ateBehind yX8_ateBehind ∈ TBL := tb_0 42 rfl rfl
set_option maxRecDepth 20000 in
theorem se_yX8_sheetWrong : Cond.selects RX8 yX8_sheetWrong yX8_sheetWrong ∈ TBL := tb_0 43 rfl rfl
set_option maxRecDepth 20000 in
theorem se_yX8_unlike : Cond.selects RX8 yX8_unlike yX8_unlike ∈ TBL := tb_0 44 rfl rfl
set_option maxRecDepth 20000 in
theorem se_yX8_dinners : Cond.selects RX8 yX8_dinners yX8_dinners ∈ TBL := tb_0 45 rfl rfl
set_option maxRecDepth 20000 in
theorem ini_RL : Cond.initialized RL ∈ TBL := tb_1 0 rfl rfl
set_option maxRecDepth 20000 in
theorem ini_RX7 : Cond.initialized RX7 ∈ TBL := tb_1 1 rfl rfl
set_option maxRecDepth 20000 in
theorem ini_RX5 : Cond.initialized RX5 ∈ TBL := tb_1 2 rfl rfl
set_option maxRecDepth 20000 in
theorem ini_RX2 : Cond.initialized RX2 ∈ TBL := tb_1 3 rfl rfl
set_option maxRecDepth 20000 in
theorem ini_RX1 : Cond.initialized RX1 ∈ TBL := tb_1 4 rfl rfl
set_option maxRecDepth 20000 in
theorem ini_RX6 : Cond.initialized RX6 ∈ TBL := tb_1 5 rfl rfl
set_option maxRecDepth 20000 in
theorem ini_RX4 : Cond.initialized RX4 ∈ TBL := tb_1 6 rfl rfl
set_option maxRecDepth 20000 in
theorem ini_RX0 : Cond.initialized RX0 ∈ TBL := tb_1 7 rfl rfl
set_option maxRecDepth 20000 in
theorem ini_RX3 : Cond.initialized RX3 ∈ TBL := tb_1 8 rfl rfl
set_option maxRecDepth 20000 in
theorem ini_RX8 : Cond.initialized RX8 ∈ TBL := tb_1 9 rfl rfl
set_option maxRecDepth 20000 in
theorem ini_RJ6 : Cond.initialized RJ6 ∈ TBL := tb_1 10 rfl rfl
set_option maxRecDepth 20000 in
theorem ini_RJ9 : Cond.initialized RJ9 ∈ TBL := tb_1 11 rfl rfl
set_option maxRecDepth 20000 in
theorem ini_RJ0 : Cond.initialized RJ0 ∈ TBL := tb_1 12 rfl rfl
set_option maxRecDepth 20000 in
theorem ini_RJ1 : Cond.initialized RJ1 ∈ TBL := tb_1 13 rfl rfl
set_option maxRecDepth 20000 in
theorem ini_RJ3 : Cond.initialized RJ3 ∈ TBL := tb_1 14 rfl rfl
set_option maxRecDepth 20000 in
theorem ini_RJ2 : Cond.initialized RJ2 ∈ TBL := tb_1 15 rfl rfl
set_option maxRecDepth 20000 in
theorem ini_RJ7 : Cond.initialized RJ7 ∈ TBL := tb_1 16 rfl rfl
set_option maxRecDepth 20000 in
theorem ini_RJ10 : Cond.initialized RJ10 ∈ TBL := tb_1 17 rfl rfl
set_option maxRecDepth 20000 in
theorem cl_RL_7 : Cond.classLink RL 7 RX7 ∈ TBL := tb_1 18 rfl rfl
set_option maxRecDepth 20000 in
theorem inst_RX7_10 : Cond.instantiable RX7 10 ∈ TBL := tb_1 19 rfl rfl
set_option maxRecDepth 20000 in
theorem ml_RL_9 : Cond.methodLink RL 9 yX7_init ∈ TBL := tb_1 20 rfl rfl
set_option maxRecDepth 20000 in
theorem im_yX7_init : Cond.instanceMethod yX7_init ∈ TBL := tb_1 21 rfl rfl
set_option maxRecDepth 20000 in
theorem cd_yX7_init : Cond.code yX7_init prog_1_method_1_code 3 none ∈ TBL := tb_1 22 rfl rfl
set_option maxRecDepth 20000 in
theorem ml_RX7_1 : Cond.methodLink RX7 1 (⟨"java/lang/Object", "<init>", "()V"⟩ : MethodName) ∈ TBL := tb_1 23 rfl rfl
set_option maxRecDepth 20000 in
theorem im_java_lang_Object_init_V_MethodName : Cond.instanceMethod (⟨"java/lang/Object", "<init>", "()V"⟩ : MethodName) ∈ TBL := tb_1 24 rfl rfl
set_option maxRecDepth 20000 in
theorem cd_67a468 : Cond.code (⟨"java/lang/Object", "<init>", "()V"⟩ : MethodName) object_method_1_code 1 none ∈ TBL := tb_1 25 rfl rfl
set_option maxRecDepth 20000 in
theorem cl_RX7_7 : Cond.classLink RX7 7 RX5 ∈ TBL := tb_1 26 rfl rfl
set_option maxRecDepth 20000 in
theorem inst_RX5_6 : Cond.instantiable RX5 6 ∈ TBL := tb_1 27 rfl rfl
set_option maxRecDepth 20000 in
theorem ml_RX7_9 : Cond.methodLink RX7 9 yX5_init ∈ TBL := tb_1 28 rfl rfl
set_option maxRecDepth 20000 in
theorem im_yX5_init : Cond.instanceMethod yX5_init ∈ TBL := tb_1 29 rfl rfl
set_option maxRecDepth 20000 in
theorem cd_yX5_init : Cond.code yX5_init prog_7_method_1_code 1 none ∈ TBL := tb_1 30 rfl rfl
set_option maxRecDepth 20000 in
theorem ml_RX5_3 : Cond.methodLink RX5 3 (⟨"java/lang/Object", "<init>", "()V"⟩ : MethodName) ∈ TBL := tb_1 31 rfl rfl
set_option maxRecDepth 20000 in
theorem fl_RX5_9 : Cond.fieldLink RX5 9 RX5 "bytes" "[I" ∈ TBL := tb_1 32 rfl rfl
set_option maxRecDepth 20000 in
theorem fl_RX5_15 : Cond.fieldLink RX5 15 RX5 "size" "I" ∈ TBL := tb_1 33 rfl rfl
set_option maxRecDepth 20000 in
theorem fl_RX7_90 : Cond.fieldLink RX7 90 RX5 "size" "I" ∈ TBL := tb_1 34 rfl rfl
set_option maxRecDepth 20000 in
theorem fl_RX5_19 : Cond.fieldLink RX5 19 RX5 "at" "I" ∈ TBL := tb_1 35 rfl rfl
set_option maxRecDepth 20000 in
theorem fl_RX2_35 : Cond.fieldLink RX2 35 RX5 "token" "I" ∈ TBL := tb_1 36 rfl rfl
set_option maxRecDepth 20000 in
theorem fl_RX5_28 : Cond.fieldLink RX5 28 RX5 "token" "I" ∈ TBL := tb_1 37 rfl rfl
set_option maxRecDepth 20000 in
theorem fl_RX2_38 : Cond.fieldLink RX2 38 RX5 "tokenAt" "I" ∈ TBL := tb_1 38 rfl rfl
set_option maxRecDepth 20000 in
theorem fl_RX5_25 : Cond.fieldLink RX5 25 RX5 "tokenAt" "I" ∈ TBL := tb_1 39 rfl rfl
set_option maxRecDepth 20000 in
theorem fl_RX5_86 : Cond.fieldLink RX5 86 RX5 "number" "I" ∈ TBL := tb_1 40 rfl rfl
set_option maxRecDepth 20000 in
theorem fl_RX2_70 : Cond.fieldLink RX2 70 RX5 "number" "I" ∈ TBL := tb_1 41 rfl rfl
set_option maxRecDepth 20000 in
theorem ac_FieldType_int : Cond.arrayClass FieldType.int ∈ TBL := tb_1 55 rfl rfl
set_option maxRecDepth 20000 in
theorem cl_RX7_16 : Cond.classLink RX7 16 RX2 ∈ TBL := tb_1 56 rfl rfl
set_option maxRecDepth 20000 in
theorem inst_RX2_4 : Cond.instantiable RX2 4 ∈ TBL := tb_1 57 rfl rfl
set_option maxRecDepth 20000 in
theorem ml_RX7_18 : Cond.methodLink RX7 18 yX2_init ∈ TBL := tb_1 58 rfl rfl
set_option maxRecDepth 20000 in
theorem im_yX2_init : Cond.instanceMethod yX2_init ∈ TBL := tb_1 59 rfl rfl
set_option maxRecDepth 20000 in
theorem cd_yX2_init : Cond.code yX2_init prog_4_method_1_code 2 none ∈ TBL := tb_1 60 rfl rfl
set_option maxRecDepth 20000 in
theorem ml_RX2_3 : Cond.methodLink RX2 3 (⟨"java/lang/Object", "<init>", "()V"⟩ : MethodName) ∈ TBL := tb_1 61 rfl rfl
set_option maxRecDepth 20000 in
theorem fl_RX2_9 : Cond.fieldLink RX2 9 RX2 "tape" "LStalemateDinner$Tape;" ∈ TBL := tb_1 62 rfl rfl
set_option maxRecDepth 20000 in
theorem fl_RX2_15 : Cond.fieldLink RX2 15 RX2 "code" "[I" ∈ TBL := tb_1 63 rfl rfl
set_option maxRecDepth 20000 in
theorem fl_RX7_104 : Cond.fieldLink RX7 104 RX2 "code" "[I" ∈ TBL := tb_1 64 rfl rfl
set_option maxRecDepth 20000 in
theorem fl_RX2_19 : Cond.fieldLink RX2 19 RX2 "starts" "[I" ∈ TBL := tb_1 65 rfl rfl
set_option maxRecDepth 20000 in
theorem fl_RX7_117 : Cond.fieldLink RX7 117 RX2 "starts" "[I" ∈ TBL := tb_1 66 rfl rfl
set_option maxRecDepth 20000 in
theorem fl_RX2_22 : Cond.fieldLink RX2 22 RX2 "length" "I" ∈ TBL := tb_1 67 rfl rfl
set_option maxRecDepth 20000 in
theorem fl_RX7_108 : Cond.fieldLink RX7 108 RX2 "length" "I" ∈ TBL := tb_1 68 rfl rfl
set_option maxRecDepth 20000 in
theorem cl_RX7_25 : Cond.classLink RX7 25 RX1 ∈ TBL := tb_1 78 rfl rfl
set_option maxRecDepth 20000 in
theorem inst_RX1_2 : Cond.instantiable RX1 2 ∈ TBL := tb_1 79 rfl rfl
set_option maxRecDepth 20000 in
theorem ml_RX7_27 : Cond.methodLink RX7 27 yX1_init ∈ TBL := tb_1 80 rfl rfl
set_option maxRecDepth 20000 in
theorem im_yX1_init : Cond.instanceMethod yX1_init ∈ TBL := tb_1 81 rfl rfl
set_option maxRecDepth 20000 in
theorem cd_yX1_init : Cond.code yX1_init prog_3_method_1_code 1 none ∈ TBL := tb_1 82 rfl rfl
set_option maxRecDepth 20000 in
theorem ml_RX1_3 : Cond.methodLink RX1 3 (⟨"java/lang/Object", "<init>", "()V"⟩ : MethodName) ∈ TBL := tb_1 83 rfl rfl
set_option maxRecDepth 20000 in
theorem fl_RX1_9 : Cond.fieldLink RX1 9 RX1 "numbers" "[I" ∈ TBL := tb_1 84 rfl rfl
set_option maxRecDepth 20000 in
theorem fl_RX1_15 : Cond.fieldLink RX1 15 RX1 "height" "I" ∈ TBL := tb_1 85 rfl rfl
set_option maxRecDepth 20000 in
theorem fl_RX6_26 : Cond.fieldLink RX6 26 RX1 "height" "I" ∈ TBL := tb_1 86 rfl rfl
set_option maxRecDepth 20000 in
theorem cl_RX7_32 : Cond.classLink RX7 32 RX6 ∈ TBL := tb_1 92 rfl rfl
set_option maxRecDepth 20000 in
theorem inst_RX6_4 : Cond.instantiable RX6 4 ∈ TBL := tb_1 94 rfl rfl
set_option maxRecDepth 20000 in
theorem ml_RX7_38 : Cond.methodLink RX7 38 yX6_init ∈ TBL := tb_1 95 rfl rfl
set_option maxRecDepth 20000 in
theorem im_yX6_init : Cond.instanceMethod yX6_init ∈ TBL := tb_1 96 rfl rfl
set_option maxRecDepth 20000 in
theorem cd_yX6_init : Cond.code yX6_init prog_8_method_1_code 5 none ∈ TBL := tb_1 97 rfl rfl
set_option maxRecDepth 20000 in
theorem ml_RX6_3 : Cond.methodLink RX6 3 (⟨"java/lang/Object", "<init>", "()V"⟩ : MethodName) ∈ TBL := tb_1 98 rfl rfl
set_option maxRecDepth 20000 in
theorem fl_RX6_9 : Cond.fieldLink RX6 9 RX6 "number" "I" ∈ TBL := tb_1 99 rfl rfl
set_option maxRecDepth 20000 in
theorem fl_RX7_87 : Cond.fieldLink RX7 87 RX6 "number" "I" ∈ TBL := tb_1 100 rfl rfl
set_option maxRecDepth 20000 in
theorem fl_RX6_15 : Cond.fieldLink RX6 15 RX6 "code" "[I" ∈ TBL := tb_1 101 rfl rfl
set_option maxRecDepth 20000 in
theorem fl_RX6_19 : Cond.fieldLink RX6 19 RX6 "starts" "[I" ∈ TBL := tb_1 102 rfl rfl
set_option maxRecDepth 20000 in
theorem fl_RX6_22 : Cond.fieldLink RX6 22 RX6 "pile" "LStalemateDinner$Pile;" ∈ TBL := tb_1 103 rfl rfl
set_option maxRecDepth 20000 in
theorem cl_RX7_45 : Cond.classLink RX7 45 RX4 ∈ TBL := tb_1 113 rfl rfl
set_option maxRecDepth 20000 in
theorem inst_RX4_4 : Cond.instantiable RX4 4 ∈ TBL := tb_1 114 rfl rfl
set_option maxRecDepth 20000 in
theorem ml_RX7_47 : Cond.methodLink RX7 47 yX4_init ∈ TBL := tb_1 115 rfl rfl
set_option maxRecDepth 20000 in
theorem im_yX4_init : Cond.instanceMethod yX4_init ∈ TBL := tb_1 116 rfl rfl
set_option maxRecDepth 20000 in
theorem cd_yX4_init : Cond.code yX4_init prog_6_method_1_code 3 none ∈ TBL := tb_1 117 rfl rfl
set_option maxRecDepth 20000 in
theorem ml_RX4_3 : Cond.methodLink RX4 3 (⟨"java/lang/Object", "<init>", "()V"⟩ : MethodName) ∈ TBL := tb_1 118 rfl rfl
set_option maxRecDepth 20000 in
theorem cl_RX4_15 : Cond.classLink RX4 15 RX0 ∈ TBL := tb_1 119 rfl rfl
set_option maxRecDepth 20000 in
theorem inst_RX0_7 : Cond.instantiable RX0 7 ∈ TBL := tb_1 121 rfl rfl
set_option maxRecDepth 20000 in
theorem im_yX0_init : Cond.instanceMethod yX0_init ∈ TBL := tb_1 123 rfl rfl
set_option maxRecDepth 20000 in
theorem cd_yX0_init : Cond.code yX0_init prog_2_method_1_code 1 none ∈ TBL := tb_1 124 rfl rfl
set_option maxRecDepth 20000 in
theorem ml_RX0_3 : Cond.methodLink RX0 3 (⟨"java/lang/Object", "<init>", "()V"⟩ : MethodName) ∈ TBL := tb_1 125 rfl rfl
set_option maxRecDepth 20000 in
theorem fl_RX0_9 : Cond.fieldLink RX0 9 RX0 "kind" "I" ∈ TBL := tb_1 126 rfl rfl
set_option maxRecDepth 20000 in
theorem fl_RX4_42 : Cond.fieldLink RX4 42 RX0 "kind" "I" ∈ TBL := tb_1 127 rfl rfl
set_option maxRecDepth 20000 in
theorem fl_RX7_152 : Cond.fieldLink RX7 152 RX0 "kind" "I" ∈ TBL := tb_1 128 rfl rfl
set_option maxRecDepth 20000 in
theorem fl_RX0_15 : Cond.fieldLink RX0 15 RX0 "more" "I" ∈ TBL := tb_1 129 rfl rfl
set_option maxRecDepth 20000 in
theorem fl_RX6_76 : Cond.fieldLink RX6 76 RX0 "more" "I" ∈ TBL := tb_1 130 rfl rfl
set_option maxRecDepth 20000 in
theorem fl_RX4_52 : Cond.fieldLink RX4 52 RX0 "more" "I" ∈ TBL := tb_1 131 rfl rfl
set_option maxRecDepth 20000 in
theorem fl_RX7_155 : Cond.fieldLink RX7 155 RX0 "more" "I" ∈ TBL := tb_1 132 rfl rfl
set_option maxRecDepth 20000 in
theorem fl_RX0_18 : Cond.fieldLink RX0 18 RX0 "wrong" "I" ∈ TBL := tb_1 133 rfl rfl
set_option maxRecDepth 20000 in
theorem fl_RX6_67 : Cond.fieldLink RX6 67 RX0 "wrong" "I" ∈ TBL := tb_1 134 rfl rfl
set_option maxRecDepth 20000 in
theorem fl_RX4_55 : Cond.fieldLink RX4 55 RX0 "wrong" "I" ∈ TBL := tb_1 135 rfl rfl
set_option maxRecDepth 20000 in
theorem fl_RX7_201 : Cond.fieldLink RX7 201 RX0 "wrong" "I" ∈ TBL := tb_1 136 rfl rfl
set_option maxRecDepth 20000 in
theorem fl_RX0_21 : Cond.fieldLink RX0 21 RX0 "shy" "I" ∈ TBL := tb_1 137 rfl rfl
set_option maxRecDepth 20000 in
theorem fl_RX6_56 : Cond.fieldLink RX6 56 RX0 "shy" "I" ∈ TBL := tb_1 138 rfl rfl
set_option maxRecDepth 20000 in
theorem fl_RX4_39 : Cond.fieldLink RX4 39 RX0 "shy" "I" ∈ TBL := tb_1 139 rfl rfl
set_option maxRecDepth 20000 in
theorem fl_RX7_232 : Cond.fieldLink RX7 232 RX0 "shy" "I" ∈ TBL := tb_1 140 rfl rfl
set_option maxRecDepth 20000 in
theorem fl_RX0_24 : Cond.fieldLink RX0 24 RX0 "bored" "I" ∈ TBL := tb_1 141 rfl rfl
set_option maxRecDepth 20000 in
theorem fl_RX6_61 : Cond.fieldLink RX6 61 RX0 "bored" "I" ∈ TBL := tb_1 142 rfl rfl
set_option maxRecDepth 20000 in
theorem fl_RX4_97 : Cond.fieldLink RX4 97 RX0 "bored" "I" ∈ TBL := tb_1 143 rfl rfl
set_option maxRecDepth 20000 in
theorem fl_RX7_213 : Cond.fieldLink RX7 213 RX0 "bored" "I" ∈ TBL := tb_1 144 rfl rfl
set_option maxRecDepth 20000 in
theorem fl_RX0_27 : Cond.fieldLink RX0 27 RX0 "ate" "I" ∈ TBL := tb_1 145 rfl rfl
set_option maxRecDepth 20000 in
theorem fl_RX6_64 : Cond.fieldLink RX6 64 RX0 "ate" "I" ∈ TBL := tb_1 146 rfl rfl
set_option maxRecDepth 20000 in
theorem fl_RX4_88 : Cond.fieldLink RX4 88 RX0 "ate" "I" ∈ TBL := tb_1 147 rfl rfl
set_option maxRecDepth 20000 in
theorem fl_RX7_210 : Cond.fieldLink RX7 210 RX0 "ate" "I" ∈ TBL := tb_1 148 rfl rfl
set_option maxRecDepth 20000 in
theorem fl_RX0_30 : Cond.fieldLink RX0 30 RX0 "danger" "Z" ∈ TBL := tb_1 149 rfl rfl
set_option maxRecDepth 20000 in
theorem fl_RX4_68 : Cond.fieldLink RX4 68 RX0 "danger" "Z" ∈ TBL := tb_1 150 rfl rfl
set_option maxRecDepth 20000 in
theorem fl_RX7_228 : Cond.fieldLink RX7 228 RX0 "danger" "Z" ∈ TBL := tb_1 151 rfl rfl
set_option maxRecDepth 20000 in
theorem fl_RX4_17 : Cond.fieldLink RX4 17 RX4 "guests" "[LStalemateDinner$Guest;" ∈ TBL := tb_1 167 rfl rfl
set_option maxRecDepth 20000 in
theorem fl_RX7_128 : Cond.fieldLink RX7 128 RX4 "guests" "[LStalemateDinner$Guest;" ∈ TBL := tb_1 168 rfl rfl
set_option maxRecDepth 20000 in
theorem fl_RX4_22 : Cond.fieldLink RX4 22 RX4 "seats" "I" ∈ TBL := tb_1 169 rfl rfl
set_option maxRecDepth 20000 in
theorem fl_RX7_67 : Cond.fieldLink RX7 67 RX4 "seats" "I" ∈ TBL := tb_1 170 rfl rfl
set_option maxRecDepth 20000 in
theorem fl_RX4_26 : Cond.fieldLink RX4 26 RX4 "now" "I" ∈ TBL := tb_1 171 rfl rfl
set_option maxRecDepth 20000 in
theorem fl_RX7_70 : Cond.fieldLink RX7 70 RX4 "now" "I" ∈ TBL := tb_1 172 rfl rfl
set_option maxRecDepth 20000 in
theorem fl_RX4_9 : Cond.fieldLink RX4 9 RX4 "law" "LStalemateDinner$Text;" ∈ TBL := tb_1 173 rfl rfl
set_option maxRecDepth 20000 in
theorem fl_RX7_83 : Cond.fieldLink RX7 83 RX4 "law" "LStalemateDinner$Text;" ∈ TBL := tb_1 174 rfl rfl
set_option maxRecDepth 20000 in
theorem cl_RX7_60 : Cond.classLink RX7 60 RX3 ∈ TBL := tb_1 184 rfl rfl
set_option maxRecDepth 20000 in
theorem inst_RX3_3 : Cond.instantiable RX3 3 ∈ TBL := tb_1 186 rfl rfl
set_option maxRecDepth 20000 in
theorem ml_RX7_66 : Cond.methodLink RX7 66 yX3_init ∈ TBL := tb_1 187 rfl rfl
set_option maxRecDepth 20000 in
theorem im_yX3_init : Cond.instanceMethod yX3_init ∈ TBL := tb_1 188 rfl rfl
set_option maxRecDepth 20000 in
theorem cd_yX3_init : Cond.code yX3_init prog_5_method_1_code 1 none ∈ TBL := tb_1 189 rfl rfl
set_option maxRecDepth 20000 in
theorem ml_RX3_3 : Cond.methodLink RX3 3 (⟨"java/lang/Object", "<init>", "()V"⟩ : MethodName) ∈ TBL := tb_1 190 rfl rfl
set_option maxRecDepth 20000 in
theorem fl_RX3_9 : Cond.fieldLink RX3 9 RX3 "numbers" "[I" ∈ TBL := tb_1 191 rfl rfl
set_option maxRecDepth 20000 in
theorem fl_RX7_276 : Cond.fieldLink RX7 276 RX3 "numbers" "[I" ∈ TBL := tb_1 192 rfl rfl
set_option maxRecDepth 20000 in
theorem fl_RX3_15 : Cond.fieldLink RX3 15 RX3 "sort" "I" ∈ TBL := tb_1 193 rfl rfl
set_option maxRecDepth 20000 in
theorem fl_RX7_272 : Cond.fieldLink RX7 272 RX3 "sort" "I" ∈ TBL := tb_1 194 rfl rfl
set_option maxRecDepth 20000 in
theorem fl_RX3_19 : Cond.fieldLink RX3 19 RX3 "size" "I" ∈ TBL := tb_1 195 rfl rfl
set_option maxRecDepth 20000 in
theorem fl_RX7_275 : Cond.fieldLink RX7 275 RX3 "size" "I" ∈ TBL := tb_1 196 rfl rfl
set_option maxRecDepth 20000 in
theorem fl_RX7_10 : Cond.fieldLink RX7 10 RX7 "tape" "LStalemateDinner$Tape;" ∈ TBL := tb_1 204 rfl rfl
set_option maxRecDepth 20000 in
theorem fl_RX7_21 : Cond.fieldLink RX7 21 RX7 "reader" "LStalemateDinner$Reader;" ∈ TBL := tb_1 205 rfl rfl
set_option maxRecDepth 20000 in
theorem fl_RX7_28 : Cond.fieldLink RX7 28 RX7 "pile" "LStalemateDinner$Pile;" ∈ TBL := tb_1 206 rfl rfl
set_option maxRecDepth 20000 in
theorem fl_RX7_34 : Cond.fieldLink RX7 34 RX7 "texts" "[LStalemateDinner$Text;" ∈ TBL := tb_1 207 rfl rfl
set_option maxRecDepth 20000 in
theorem fl_RX7_41 : Cond.fieldLink RX7 41 RX7 "textCount" "I" ∈ TBL := tb_1 208 rfl rfl
set_option maxRecDepth 20000 in
theorem fl_RX7_50 : Cond.fieldLink RX7 50 RX7 "table" "LStalemateDinner$Table;" ∈ TBL := tb_1 209 rfl rfl
set_option maxRecDepth 20000 in
theorem fl_RX7_54 : Cond.fieldLink RX7 54 RX7 "thought" "LStalemateDinner$Table;" ∈ TBL := tb_1 210 rfl rfl
set_option maxRecDepth 20000 in
theorem fl_RX7_57 : Cond.fieldLink RX7 57 RX7 "kept" "LStalemateDinner$Table;" ∈ TBL := tb_1 211 rfl rfl
set_option maxRecDepth 20000 in
theorem fl_RX7_269 : Cond.fieldLink RX7 269 RX7 "isKept" "Z" ∈ TBL := tb_1 212 rfl rfl
set_option maxRecDepth 20000 in
theorem fl_RX7_62 : Cond.fieldLink RX7 62 RX7 "sheets" "[LStalemateDinner$Sheet;" ∈ TBL := tb_1 213 rfl rfl
set_option maxRecDepth 20000 in
theorem ml_RL_13 : Cond.methodLink RL 13 yX7_count ∈ TBL := tb_1 235 rfl rfl
set_option maxRecDepth 20000 in
theorem im_yX7_count : Cond.instanceMethod yX7_count ∈ TBL := tb_1 236 rfl rfl
set_option maxRecDepth 20000 in
theorem se_yX7_count : Cond.selects RX7 yX7_count yX7_count ∈ TBL := tb_1 237 rfl rfl
set_option maxRecDepth 20000 in
theorem cd_yX7_count : Cond.code yX7_count prog_1_method_2_code 2 (some FieldType.int) ∈ TBL := tb_1 238 rfl rfl
set_option maxRecDepth 20000 in
theorem ml_RX7_73 : Cond.methodLink RX7 73 yX4_stuckBits ∈ TBL := tb_1 239 rfl rfl
set_option maxRecDepth 20000 in
theorem im_yX4_stuckBits : Cond.instanceMethod yX4_stuckBits ∈ TBL := tb_2 0 rfl rfl
set_option maxRecDepth 20000 in
theorem se_yX4_stuckBits : Cond.selects RX4 yX4_stuckBits yX4_stuckBits ∈ TBL := tb_2 1 rfl rfl
set_option maxRecDepth 20000 in
theorem cd_yX4_stuckBits : Cond.code yX4_stuckBits prog_6_method_17_code 3 (some FieldType.int) ∈ TBL := tb_2 2 rfl rfl
set_option maxRecDepth 20000 in
theorem ml_RX4_119 : Cond.methodLink RX4 119 yX4_isStuck ∈ TBL := tb_2 3 rfl rfl
set_option maxRecDepth 20000 in
theorem im_yX4_isStuck : Cond.instanceMethod yX4_isStuck ∈ TBL := tb_2 4 rfl rfl
set_option maxRecDepth 20000 in
theorem se_yX4_isStuck : Cond.selects RX4 yX4_isStuck yX4_isStuck ∈ TBL := tb_2 5 rfl rfl
set_option maxRecDepth 20000 in
theorem cd_yX4_isStuck : Cond.code yX4_isStuck prog_6_method_10_code 2 (some FieldType.boolean) ∈ TBL := tb_2 6 rfl rfl
set_option maxRecDepth 20000 in
theorem ml_RX4_72 : Cond.methodLink RX4 72 yX4_minded ∈ TBL := tb_2 7 rfl rfl
set_option maxRecDepth 20000 in
theorem im_yX4_minded : Cond.instanceMethod yX4_minded ∈ TBL := tb_2 8 rfl rfl
set_option maxRecDepth 20000 in
theorem se_yX4_minded : Cond.selects RX4 yX4_minded yX4_minded ∈ TBL := tb_2 9 rfl rfl
set_option maxRecDepth 20000 in
theorem cd_yX4_minded : Cond.code yX4_minded prog_6_method_4_code 3 (some FieldType.int) ∈ TBL := tb_2 10 rfl rfl
set_option maxRecDepth 20000 in
theorem ml_RX4_33 : Cond.methodLink RX4 33 yX6_says ∈ TBL := tb_2 11 rfl rfl
set_option maxRecDepth 20000 in
theorem im_yX6_says : Cond.instanceMethod yX6_says ∈ TBL := tb_2 12 rfl rfl
set_option maxRecDepth 20000 in
theorem se_yX6_says : Cond.selects RX6 yX6_says yX6_says ∈ TBL := tb_2 13 rfl rfl
set_option maxRecDepth 20000 in
theorem cd_yX6_says : Cond.code yX6_says prog_8_method_2_code 7 (some FieldType.int) ∈ TBL := tb_2 14 rfl rfl
set_option maxRecDepth 20000 in
theorem ml_RX6_31 : Cond.methodLink RX6 31 yX1_lay ∈ TBL := tb_2 15 rfl rfl
set_option maxRecDepth 20000 in
theorem im_yX1_lay : Cond.instanceMethod yX1_lay ∈ TBL := tb_2 16 rfl rfl
set_option maxRecDepth 20000 in
theorem se_yX1_lay : Cond.selects RX1 yX1_lay yX1_lay ∈ TBL := tb_2 17 rfl rfl
set_option maxRecDepth 20000 in
theorem cd_yX1_lay : Cond.code yX1_lay prog_3_method_2_code 2 none ∈ TBL := tb_2 18 rfl rfl
set_option maxRecDepth 20000 in
theorem ml_RX6_35 : Cond.methodLink RX6 35 yX6_named ∈ TBL := tb_2 19 rfl rfl
set_option maxRecDepth 20000 in
theorem st_yX6_named : Cond.static yX6_named ∈ TBL := tb_2 20 rfl rfl
set_option maxRecDepth 20000 in
theorem cd_yX6_named : Cond.code yX6_named prog_8_method_3_code 3 (some FieldType.int) ∈ TBL := tb_2 21 rfl rfl
set_option maxRecDepth 20000 in
theorem ml_RX6_70 : Cond.methodLink RX6 70 yJ6_bitCount_0f7a4 ∈ TBL := tb_2 22 rfl rfl
set_option maxRecDepth 20000 in
theorem st_yJ6_bitCount_0f7a4 : Cond.static yJ6_bitCount_0f7a4 ∈ TBL := tb_2 23 rfl rfl
set_option maxRecDepth 20000 in
theorem cd_yJ6_bitCount_0f7a4 : Cond.code yJ6_bitCount_0f7a4 prog_12_method_49_code 1 (some FieldType.int) ∈ TBL := tb_2 24 rfl rfl
set_option maxRecDepth 20000 in
theorem kc_RJ6_265 : Cond.constant RJ6 265 1431655765 ∈ TBL := tb_2 25 rfl rfl
set_option maxRecDepth 20000 in
theorem kc_RJ6_266 : Cond.constant RJ6 266 858993459 ∈ TBL := tb_2 26 rfl rfl
set_option maxRecDepth 20000 in
theorem kc_RJ6_267 : Cond.constant RJ6 267 252645135 ∈ TBL := tb_2 27 rfl rfl
set_option maxRecDepth 20000 in
theorem ml_RX6_39 : Cond.methodLink RX6 39 yX1_lift ∈ TBL := tb_2 28 rfl rfl
set_option maxRecDepth 20000 in
theorem im_yX1_lift : Cond.instanceMethod yX1_lift ∈ TBL := tb_2 29 rfl rfl
set_option maxRecDepth 20000 in
theorem se_yX1_lift : Cond.selects RX1 yX1_lift yX1_lift ∈ TBL := tb_2 30 rfl rfl
set_option maxRecDepth 20000 in
theorem cd_yX1_lift : Cond.code yX1_lift prog_3_method_3_code 1 (some FieldType.int) ∈ TBL := tb_2 31 rfl rfl
set_option maxRecDepth 20000 in
theorem ml_RX6_43 : Cond.methodLink RX6 43 yX6_joined ∈ TBL := tb_2 32 rfl rfl
set_option maxRecDepth 20000 in
theorem st_yX6_joined : Cond.static yX6_joined ∈ TBL := tb_2 33 rfl rfl
set_option maxRecDepth 20000 in
theorem cd_yX6_joined : Cond.code yX6_joined prog_8_method_4_code 3 (some FieldType.int) ∈ TBL := tb_2 34 rfl rfl
set_option maxRecDepth 20000 in
theorem ml_RX6_47 : Cond.methodLink RX6 47 yJ9_min_7cf53 ∈ TBL := tb_2 35 rfl rfl
set_option maxRecDepth 20000 in
theorem st_yJ9_min_7cf53 : Cond.static yJ9_min_7cf53 ∈ TBL := tb_2 36 rfl rfl
set_option maxRecDepth 20000 in
theorem cd_yJ9_min_7cf53 : Cond.code yJ9_min_7cf53 prog_13_method_69_code 2 (some FieldType.int) ∈ TBL := tb_2 37 rfl rfl
set_option maxRecDepth 20000 in
theorem ml_RX6_53 : Cond.methodLink RX6 53 yJ9_max_7cf53 ∈ TBL := tb_2 38 rfl rfl
set_option maxRecDepth 20000 in
theorem st_yJ9_max_7cf53 : Cond.static yJ9_max_7cf53 ∈ TBL := tb_2 39 rfl rfl
set_option maxRecDepth 20000 in
theorem cd_yJ9_max_7cf53 : Cond.code yJ9_max_7cf53 prog_13_method_65_code 2 (some FieldType.int) ∈ TBL := tb_2 40 rfl rfl
set_option maxRecDepth 20000 in
theorem ml_RX4_45 : Cond.methodLink RX4 45 yX4_mindedByBred ∈ TBL := tb_2 41 rfl rfl
set_option maxRecDepth 20000 in
theorem st_yX4_mindedByBred : Cond.static yX4_mindedByBred ∈ TBL := tb_2 42 rfl rfl
set_option maxRecDepth 20000 in
theorem cd_yX4_mindedByBred : Cond.code yX4_mindedByBred prog_6_method_5_code 2 (some FieldType.int) ∈ TBL := tb_2 43 rfl rfl
set_option maxRecDepth 20000 in
theorem ml_RX4_49 : Cond.methodLink RX4 49 yX4_mindedByHungry ∈ TBL := tb_2 44 rfl rfl
set_option maxRecDepth 20000 in
theorem st_yX4_mindedByHungry : Cond.static yX4_mindedByHungry ∈ TBL := tb_2 45 rfl rfl
set_option maxRecDepth 20000 in
theorem cd_yX4_mindedByHungry : Cond.code yX4_mindedByHungry prog_6_method_6_code 2 (some FieldType.int) ∈ TBL := tb_2 46 rfl rfl
set_option maxRecDepth 20000 in
theorem ml_RX7_77 : Cond.methodLink RX7 77 yJ6_bitCount_0f7a4 ∈ TBL := tb_2 47 rfl rfl
set_option maxRecDepth 20000 in
theorem ml_RL_18 : Cond.methodLink RL 18 yX7_clock ∈ TBL := tb_2 48 rfl rfl
set_option maxRecDepth 20000 in
theorem im_yX7_clock : Cond.instanceMethod yX7_clock ∈ TBL := tb_2 49 rfl rfl
set_option maxRecDepth 20000 in
theorem se_yX7_clock : Cond.selects RX7 yX7_clock yX7_clock ∈ TBL := tb_2 50 rfl rfl
set_option maxRecDepth 20000 in
theorem cd_yX7_clock : Cond.code yX7_clock prog_1_method_3_code 3 (some FieldType.int) ∈ TBL := tb_2 51 rfl rfl
set_option maxRecDepth 20000 in
theorem ml_RL_22 : Cond.methodLink RL 22 yX7_feed ∈ TBL := tb_2 52 rfl rfl
set_option maxRecDepth 20000 in
theorem im_yX7_feed : Cond.instanceMethod yX7_feed ∈ TBL := tb_2 53 rfl rfl
set_option maxRecDepth 20000 in
theorem se_yX7_feed : Cond.selects RX7 yX7_feed yX7_feed ∈ TBL := tb_2 54 rfl rfl
set_option maxRecDepth 20000 in
theorem cd_yX7_feed : Cond.code yX7_feed prog_1_method_4_code 8 (some FieldType.int) ∈ TBL := tb_2 55 rfl rfl
set_option maxRecDepth 20000 in
theorem ml_RX7_93 : Cond.methodLink RX7 93 yX7_isByte ∈ TBL := tb_2 56 rfl rfl
set_option maxRecDepth 20000 in
theorem st_yX7_isByte : Cond.static yX7_isByte ∈ TBL := tb_2 57 rfl rfl
set_option maxRecDepth 20000 in
theorem cd_yX7_isByte : Cond.code yX7_isByte prog_1_method_48_code 1 (some FieldType.boolean) ∈ TBL := tb_2 58 rfl rfl
set_option maxRecDepth 20000 in
theorem ml_RX7_97 : Cond.methodLink RX7 97 yX5_add ∈ TBL := tb_2 59 rfl rfl
set_option maxRecDepth 20000 in
theorem im_yX5_add : Cond.instanceMethod yX5_add ∈ TBL := tb_2 60 rfl rfl
set_option maxRecDepth 20000 in
theorem se_yX5_add : Cond.selects RX5 yX5_add yX5_add ∈ TBL := tb_2 61 rfl rfl
set_option maxRecDepth 20000 in
theorem cd_yX5_add : Cond.code yX5_add prog_7_method_2_code 2 none ∈ TBL := tb_2 62 rfl rfl
set_option maxRecDepth 20000 in
theorem ml_RL_27 : Cond.methodLink RL 27 yX7_text ∈ TBL := tb_2 63 rfl rfl
set_option maxRecDepth 20000 in
theorem im_yX7_text : Cond.instanceMethod yX7_text ∈ TBL := tb_2 64 rfl rfl
set_option maxRecDepth 20000 in
theorem se_yX7_text : Cond.selects RX7 yX7_text yX7_text ∈ TBL := tb_2 65 rfl rfl
set_option maxRecDepth 20000 in
theorem cd_yX7_text : Cond.code yX7_text prog_1_method_5_code 3 (some FieldType.int) ∈ TBL := tb_2 66 rfl rfl
set_option maxRecDepth 20000 in
theorem ml_RX7_101 : Cond.methodLink RX7 101 yX2_faultPlace ∈ TBL := tb_2 67 rfl rfl
set_option maxRecDepth 20000 in
theorem im_yX2_faultPlace : Cond.instanceMethod yX2_faultPlace ∈ TBL := tb_2 68 rfl rfl
set_option maxRecDepth 20000 in
theorem se_yX2_faultPlace : Cond.selects RX2 yX2_faultPlace yX2_faultPlace ∈ TBL := tb_2 69 rfl rfl
set_option maxRecDepth 20000 in
theorem cd_yX2_faultPlace : Cond.code yX2_faultPlace prog_4_method_2_code 2 (some FieldType.int) ∈ TBL := tb_2 70 rfl rfl
set_option maxRecDepth 20000 in
theorem ml_RX2_26 : Cond.methodLink RX2 26 yX5_start ∈ TBL := tb_2 71 rfl rfl
set_option maxRecDepth 20000 in
theorem im_yX5_start : Cond.instanceMethod yX5_start ∈ TBL := tb_2 72 rfl rfl
set_option maxRecDepth 20000 in
theorem se_yX5_start : Cond.selects RX5 yX5_start yX5_start ∈ TBL := tb_2 73 rfl rfl
set_option maxRecDepth 20000 in
theorem cd_yX5_start : Cond.code yX5_start prog_7_method_3_code 1 none ∈ TBL := tb_2 74 rfl rfl
set_option maxRecDepth 20000 in
theorem ml_RX5_22 : Cond.methodLink RX5 22 yX5_next ∈ TBL := tb_2 75 rfl rfl
set_option maxRecDepth 20000 in
theorem im_yX5_next : Cond.instanceMethod yX5_next ∈ TBL := tb_2 76 rfl rfl
set_option maxRecDepth 20000 in
theorem se_yX5_next : Cond.selects RX5 yX5_next yX5_next ∈ TBL := tb_2 77 rfl rfl
set_option maxRecDepth 20000 in
theorem cd_yX5_next : Cond.code yX5_next prog_7_method_4_code 1 none ∈ TBL := tb_2 78 rfl rfl
set_option maxRecDepth 20000 in
theorem ml_RX5_31 : Cond.methodLink RX5 31 yX5_isLetter ∈ TBL := tb_2 79 rfl rfl
set_option maxRecDepth 20000 in
theorem st_yX5_isLetter : Cond.static yX5_isLetter ∈ TBL := tb_2 80 rfl rfl
set_option maxRecDepth 20000 in
theorem cd_yX5_isLetter : Cond.code yX5_isLetter prog_7_method_9_code 1 (some FieldType.boolean) ∈ TBL := tb_2 81 rfl rfl
set_option maxRecDepth 20000 in
theorem ml_RX5_35 : Cond.methodLink RX5 35 yX5_wordToken ∈ TBL := tb_2 82 rfl rfl
set_option maxRecDepth 20000 in
theorem im_yX5_wordToken : Cond.instanceMethod yX5_wordToken ∈ TBL := tb_2 84 rfl rfl
set_option maxRecDepth 20000 in
theorem cd_yX5_wordToken : Cond.code yX5_wordToken prog_7_method_5_code 1 (some FieldType.int) ∈ TBL := tb_2 85 rfl rfl
set_option maxRecDepth 20000 in
theorem ml_RX5_51 : Cond.methodLink RX5 51 yX5_spells ∈ TBL := tb_2 87 rfl rfl
set_option maxRecDepth 20000 in
theorem im_yX5_spells : Cond.instanceMethod yX5_spells ∈ TBL := tb_2 89 rfl rfl
set_option maxRecDepth 20000 in
theorem cd_yX5_spells : Cond.code yX5_spells prog_7_method_6_code 3 (some FieldType.boolean) ∈ TBL := tb_2 90 rfl rfl
set_option maxRecDepth 20000 in
theorem ml_RX5_77 : Cond.methodLink RX5 77 yJ0_length_8abf5 ∈ TBL := tb_2 91 rfl rfl
set_option maxRecDepth 20000 in
theorem im_yJ0_length_8abf5 : Cond.instanceMethod yJ0_length_8abf5 ∈ TBL := tb_2 92 rfl rfl
set_option maxRecDepth 20000 in
theorem se_yJ0_length_8abf5 : Cond.selects RJ0 yJ0_length_8abf5 yJ0_length_8abf5 ∈ TBL := tb_2 93 rfl rfl
set_option maxRecDepth 20000 in
theorem cd_yJ0_length_8abf5 : Cond.code yJ0_length_8abf5 prog_14_method_54_code 1 (some FieldType.int) ∈ TBL := tb_2 94 rfl rfl
set_option maxRecDepth 20000 in
theorem ml_RJ0_335 : Cond.methodLink RJ0 335 yJ0_coder_7d493 ∈ TBL := tb_2 95 rfl rfl
set_option maxRecDepth 20000 in
theorem im_yJ0_coder_7d493 : Cond.instanceMethod yJ0_coder_7d493 ∈ TBL := tb_2 96 rfl rfl
set_option maxRecDepth 20000 in
theorem se_yJ0_coder_7d493 : Cond.selects RJ0 yJ0_coder_7d493 yJ0_coder_7d493 ∈ TBL := tb_2 97 rfl rfl
set_option maxRecDepth 20000 in
theorem cd_yJ0_coder_7d493 : Cond.code yJ0_coder_7d493 prog_14_method_152_code 1 (some FieldType.byte) ∈ TBL := tb_2 98 rfl rfl
set_option maxRecDepth 20000 in
theorem fl_RJ0_38 : Cond.fieldLink RJ0 38 RJ0 "COMPACT_STRINGS" "Z" ∈ TBL := tb_2 99 rfl rfl
set_option maxRecDepth 20000 in
theorem ml_RX5_82 : Cond.methodLink RX5 82 yJ0_charAt_5068e ∈ TBL := tb_2 101 rfl rfl
set_option maxRecDepth 20000 in
theorem im_yJ0_charAt_5068e : Cond.instanceMethod yJ0_charAt_5068e ∈ TBL := tb_2 102 rfl rfl
set_option maxRecDepth 20000 in
theorem se_yJ0_charAt_5068e : Cond.selects RJ0 yJ0_charAt_5068e yJ0_charAt_5068e ∈ TBL := tb_2 103 rfl rfl
set_option maxRecDepth 20000 in
theorem cd_yJ0_charAt_5068e : Cond.code yJ0_charAt_5068e prog_14_method_56_code 2 (some FieldType.char) ∈ TBL := tb_2 104 rfl rfl
set_option maxRecDepth 20000 in
theorem ml_RJ0_492 : Cond.methodLink RJ0 492 yJ0_isLatin1_aae02 ∈ TBL := tb_2 105 rfl rfl
set_option maxRecDepth 20000 in
theorem im_yJ0_isLatin1_aae02 : Cond.instanceMethod yJ0_isLatin1_aae02 ∈ TBL := tb_2 106 rfl rfl
set_option maxRecDepth 20000 in
theorem se_yJ0_isLatin1_aae02 : Cond.selects RJ0 yJ0_isLatin1_aae02 yJ0_isLatin1_aae02 ∈ TBL := tb_2 107 rfl rfl
set_option maxRecDepth 20000 in
theorem cd_yJ0_isLatin1_aae02 : Cond.code yJ0_isLatin1_aae02 prog_14_method_154_code 1 (some FieldType.boolean) ∈ TBL := tb_2 108 rfl rfl
set_option maxRecDepth 20000 in
theorem ml_RJ0_495 : Cond.methodLink RJ0 495 yJ1_charAt_3b067 ∈ TBL := tb_2 109 rfl rfl
set_option maxRecDepth 20000 in
theorem st_yJ1_charAt_3b067 : Cond.static yJ1_charAt_3b067 ∈ TBL := tb_2 110 rfl rfl
set_option maxRecDepth 20000 in
theorem cd_yJ1_charAt_3b067 : Cond.code yJ1_charAt_3b067 prog_15_method_2_code 2 (some FieldType.char) ∈ TBL := tb_2 111 rfl rfl
set_option maxRecDepth 20000 in
theorem ml_RJ1_9 : Cond.methodLink RJ1 9 yJ0_checkIndex_df160 ∈ TBL := tb_2 112 rfl rfl
set_option maxRecDepth 20000 in
theorem st_yJ0_checkIndex_df160 : Cond.static yJ0_checkIndex_df160 ∈ TBL := tb_2 113 rfl rfl
set_option maxRecDepth 20000 in
theorem cd_yJ0_checkIndex_df160 : Cond.code yJ0_checkIndex_df160 prog_14_method_155_code 2 none ∈ TBL := tb_2 114 rfl rfl
set_option maxRecDepth 20000 in
theorem fl_RJ0_1053 : Cond.fieldLink RJ0 1053 RJ3 "SIOOBE_FORMATTER" "Ljava/util/function/BiFunction;" ∈ TBL := tb_2 115 rfl rfl
set_option maxRecDepth 20000 in
theorem ml_RJ0_1059 : Cond.methodLink RJ0 1059 yJ3_checkIndex_8e157 ∈ TBL := tb_2 117 rfl rfl
set_option maxRecDepth 20000 in
theorem st_yJ3_checkIndex_8e157 : Cond.static yJ3_checkIndex_8e157 ∈ TBL := tb_2 118 rfl rfl
set_option maxRecDepth 20000 in
theorem cd_yJ3_checkIndex_8e157 : Cond.code yJ3_checkIndex_8e157 prog_19_method_11_code 3 (some FieldType.int) ∈ TBL := tb_2 119 rfl rfl
set_option maxRecDepth 20000 in
theorem ml_RJ0_498 : Cond.methodLink RJ0 498 yJ2_charAt_3b067 ∈ TBL := tb_2 120 rfl rfl
set_option maxRecDepth 20000 in
theorem st_yJ2_charAt_3b067 : Cond.static yJ2_charAt_3b067 ∈ TBL := tb_2 121 rfl rfl
set_option maxRecDepth 20000 in
theorem cd_yJ2_charAt_3b067 : Cond.code yJ2_charAt_3b067 prog_16_method_83_code 2 (some FieldType.char) ∈ TBL := tb_2 122 rfl rfl
set_option maxRecDepth 20000 in
theorem ml_RJ2_67 : Cond.methodLink RJ2 67 yJ2_checkIndex_2214a ∈ TBL := tb_2 123 rfl rfl
set_option maxRecDepth 20000 in
theorem st_yJ2_checkIndex_2214a : Cond.static yJ2_checkIndex_2214a ∈ TBL := tb_2 124 rfl rfl
set_option maxRecDepth 20000 in
theorem cd_yJ2_checkIndex_2214a : Cond.code yJ2_checkIndex_2214a prog_16_method_91_code 2 none ∈ TBL := tb_2 125 rfl rfl
set_option maxRecDepth 20000 in
theorem ml_RJ2_48 : Cond.methodLink RJ2 48 yJ2_length_9d52b ∈ TBL := tb_2 126 rfl rfl
set_option maxRecDepth 20000 in
theorem st_yJ2_length_9d52b : Cond.static yJ2_length_9d52b ∈ TBL := tb_2 127 rfl rfl
set_option maxRecDepth 20000 in
theorem cd_yJ2_length_9d52b : Cond.code yJ2_length_9d52b prog_16_method_6_code 1 (some FieldType.int) ∈ TBL := tb_2 128 rfl rfl
set_option maxRecDepth 20000 in
theorem ml_RJ2_414 : Cond.methodLink RJ2 414 yJ0_checkIndex_df160 ∈ TBL := tb_2 129 rfl rfl
set_option maxRecDepth 20000 in
theorem ml_RJ2_71 : Cond.methodLink RJ2 71 yJ2_getChar_3b067 ∈ TBL := tb_2 130 rfl rfl
set_option maxRecDepth 20000 in
theorem st_yJ2_getChar_3b067 : Cond.static yJ2_getChar_3b067 ∈ TBL := tb_2 131 rfl rfl
set_option maxRecDepth 20000 in
theorem cd_yJ2_getChar_3b067 : Cond.code yJ2_getChar_3b067 prog_16_method_5_code 2 (some FieldType.char) ∈ TBL := tb_2 132 rfl rfl
set_option maxRecDepth 20000 in
theorem fl_RJ2_44 : Cond.fieldLink RJ2 44 RJ2 "$assertionsDisabled" "Z" ∈ TBL := tb_2 133 rfl rfl
set_option maxRecDepth 20000 in
theorem fl_RJ2_59 : Cond.fieldLink RJ2 59 RJ2 "HI_BYTE_SHIFT" "I" ∈ TBL := tb_2 135 rfl rfl
set_option maxRecDepth 20000 in
theorem fl_RJ2_63 : Cond.fieldLink RJ2 63 RJ2 "LO_BYTE_SHIFT" "I" ∈ TBL := tb_2 137 rfl rfl
set_option maxRecDepth 20000 in
theorem ml_RX5_39 : Cond.methodLink RX5 39 yX5_isDigit ∈ TBL := tb_2 150 rfl rfl
set_option maxRecDepth 20000 in
theorem st_yX5_isDigit : Cond.static yX5_isDigit ∈ TBL := tb_2 151 rfl rfl
set_option maxRecDepth 20000 in
theorem cd_yX5_isDigit : Cond.code yX5_isDigit prog_7_method_10_code 1 (some FieldType.boolean) ∈ TBL := tb_2 152 rfl rfl
set_option maxRecDepth 20000 in
theorem ml_RX5_42 : Cond.methodLink RX5 42 yX5_numberToken ∈ TBL := tb_2 153 rfl rfl
set_option maxRecDepth 20000 in
theorem im_yX5_numberToken : Cond.instanceMethod yX5_numberToken ∈ TBL := tb_2 155 rfl rfl
set_option maxRecDepth 20000 in
theorem cd_yX5_numberToken : Cond.code yX5_numberToken prog_7_method_7_code 1 (some FieldType.int) ∈ TBL := tb_2 156 rfl rfl
set_option maxRecDepth 20000 in
theorem ml_RX5_45 : Cond.methodLink RX5 45 yX5_signToken ∈ TBL := tb_2 157 rfl rfl
set_option maxRecDepth 20000 in
theorem st_yX5_signToken : Cond.static yX5_signToken ∈ TBL := tb_2 158 rfl rfl
set_option maxRecDepth 20000 in
theorem cd_yX5_signToken : Cond.code yX5_signToken prog_7_method_8_code 1 (some FieldType.int) ∈ TBL := tb_2 159 rfl rfl
set_option maxRecDepth 20000 in
theorem ml_RX2_31 : Cond.methodLink RX2 31 yX2_readPart ∈ TBL := tb_2 160 rfl rfl
set_option maxRecDepth 20000 in
theorem im_yX2_readPart : Cond.instanceMethod yX2_readPart ∈ TBL := tb_2 162 rfl rfl
set_option maxRecDepth 20000 in
theorem cd_yX2_readPart : Cond.code yX2_readPart prog_4_method_3_code 3 (some FieldType.boolean) ∈ TBL := tb_2 163 rfl rfl
set_option maxRecDepth 20000 in
theorem ml_RX2_41 : Cond.methodLink RX2 41 yX2_readToken ∈ TBL := tb_2 164 rfl rfl
set_option maxRecDepth 20000 in
theorem im_yX2_readToken : Cond.instanceMethod yX2_readToken ∈ TBL := tb_2 166 rfl rfl
set_option maxRecDepth 20000 in
theorem cd_yX2_readToken : Cond.code yX2_readToken prog_4_method_4_code 2 (some FieldType.boolean) ∈ TBL := tb_2 167 rfl rfl
set_option maxRecDepth 20000 in
theorem ml_RX2_48 : Cond.methodLink RX2 48 yX5_next ∈ TBL := tb_2 168 rfl rfl
set_option maxRecDepth 20000 in
theorem ml_RX2_45 : Cond.methodLink RX2 45 yX2_readOr ∈ TBL := tb_2 169 rfl rfl
set_option maxRecDepth 20000 in
theorem im_yX2_readOr : Cond.instanceMethod yX2_readOr ∈ TBL := tb_2 171 rfl rfl
set_option maxRecDepth 20000 in
theorem cd_yX2_readOr : Cond.code yX2_readOr prog_4_method_5_code 4 (some FieldType.boolean) ∈ TBL := tb_2 172 rfl rfl
set_option maxRecDepth 20000 in
theorem ml_RX2_51 : Cond.methodLink RX2 51 yX2_readAnd ∈ TBL := tb_2 173 rfl rfl
set_option maxRecDepth 20000 in
theorem im_yX2_readAnd : Cond.instanceMethod yX2_readAnd ∈ TBL := tb_2 175 rfl rfl
set_option maxRecDepth 20000 in
theorem cd_yX2_readAnd : Cond.code yX2_readAnd prog_4_method_6_code 4 (some FieldType.boolean) ∈ TBL := tb_2 176 rfl rfl
set_option maxRecDepth 20000 in
theorem ml_RX2_58 : Cond.methodLink RX2 58 yX2_readNot ∈ TBL := tb_2 177 rfl rfl
set_option maxRecDepth 20000 in
theorem im_yX2_readNot : Cond.instanceMethod yX2_readNot ∈ TBL := tb_2 179 rfl rfl
set_option maxRecDepth 20000 in
theorem cd_yX2_readNot : Cond.code yX2_readNot prog_4_method_7_code 4 (some FieldType.boolean) ∈ TBL := tb_2 180 rfl rfl
set_option maxRecDepth 20000 in
theorem ml_RX2_54 : Cond.methodLink RX2 54 yX2_write ∈ TBL := tb_2 181 rfl rfl
set_option maxRecDepth 20000 in
theorem im_yX2_write : Cond.instanceMethod yX2_write ∈ TBL := tb_2 183 rfl rfl
set_option maxRecDepth 20000 in
theorem cd_yX2_write : Cond.code yX2_write prog_4_method_11_code 2 none ∈ TBL := tb_2 184 rfl rfl
set_option maxRecDepth 20000 in
theorem ml_RX2_61 : Cond.methodLink RX2 61 yX2_readSum ∈ TBL := tb_2 185 rfl rfl
set_option maxRecDepth 20000 in
theorem im_yX2_readSum : Cond.instanceMethod yX2_readSum ∈ TBL := tb_2 187 rfl rfl
set_option maxRecDepth 20000 in
theorem cd_yX2_readSum : Cond.code yX2_readSum prog_4_method_8_code 5 (some FieldType.boolean) ∈ TBL := tb_2 188 rfl rfl
set_option maxRecDepth 20000 in
theorem ml_RX2_64 : Cond.methodLink RX2 64 yX2_readTerm ∈ TBL := tb_2 189 rfl rfl
set_option maxRecDepth 20000 in
theorem im_yX2_readTerm : Cond.instanceMethod yX2_readTerm ∈ TBL := tb_2 191 rfl rfl
set_option maxRecDepth 20000 in
theorem cd_yX2_readTerm : Cond.code yX2_readTerm prog_4_method_9_code 4 (some FieldType.boolean) ∈ TBL := tb_2 192 rfl rfl
set_option maxRecDepth 20000 in
theorem ml_RX2_67 : Cond.methodLink RX2 67 yX2_readOne ∈ TBL := tb_2 193 rfl rfl
set_option maxRecDepth 20000 in
theorem im_yX2_readOne : Cond.instanceMethod yX2_readOne ∈ TBL := tb_2 195 rfl rfl
set_option maxRecDepth 20000 in
theorem cd_yX2_readOne : Cond.code yX2_readOne prog_4_method_10_code 4 (some FieldType.boolean) ∈ TBL := tb_2 196 rfl rfl
set_option maxRecDepth 20000 in
theorem ml_RX7_111 : Cond.methodLink RX7 111 yJ7_copyOf_59c91 ∈ TBL := tb_2 197 rfl rfl
set_option maxRecDepth 20000 in
theorem st_yJ7_copyOf_59c91 : Cond.static yJ7_copyOf_59c91 ∈ TBL := tb_2 198 rfl rfl
set_option maxRecDepth 20000 in
theorem cd_yJ7_copyOf_59c91 : Cond.code yJ7_copyOf_59c91 prog_18_method_123_code 3 (some (FieldType.array FieldType.int)) ∈ TBL := tb_2 199 rfl rfl
set_option maxRecDepth 20000 in
theorem ml_RJ7_316 : Cond.methodLink RJ7 316 (⟨"[I", "clone", "()Ljava/lang/Object;"⟩ : MethodName) ∈ TBL := tb_2 200 rfl rfl
set_option maxRecDepth 20000 in
theorem sm_I_java_lang_Object_clone_Ljava_lang_Object : Cond.sameMethod "[I" "java/lang/Object" "clone" "()Ljava/lang/Object;" ∈ TBL := tb_2 201 rfl rfl
set_option maxRecDepth 20000 in
theorem nat_java_lang_Object_clone_Ljava_lang_Object_MethodName : Cond.native (⟨"java/lang/Object", "clone", "()Ljava/lang/Object;"⟩ : MethodName) ∈ TBL := tb_2 202 rfl rfl
set_option maxRecDepth 20000 in
theorem im_java_lang_Object_clone_Ljava_lang_Object_MethodName : Cond.instanceMethod (⟨"java/lang/Object", "clone", "()Ljava/lang/Object;"⟩ : MethodName) ∈ TBL := tb_2 203 rfl rfl
set_option maxRecDepth 20000 in
theorem se__I_clone_Ljava_lang_Object_MethodName_ : Cond.selects "[I" (⟨"[I", "clone", "()Ljava/lang/Object;"⟩ : MethodName) (⟨"java/lang/Object", "clone", "()Ljava/lang/Object;"⟩ : MethodName) ∈ TBL := tb_2 204 rfl rfl
set_option maxRecDepth 20000 in
theorem cl_RJ7_317 : Cond.classLink RJ7 317 "[I" ∈ TBL := tb_2 206 rfl rfl
set_option maxRecDepth 20000 in
theorem ml_RJ7_304 : Cond.methodLink RJ7 304 yJ9_min_7cf53 ∈ TBL := tb_2 207 rfl rfl
set_option maxRecDepth 20000 in
theorem ml_RJ7_150 : Cond.methodLink RJ7 150 (⟨"java/lang/System", "arraycopy", "(Ljava/lang/Object;ILjava/lang/Object;II)V"⟩ : MethodName) ∈ TBL := tb_2 208 rfl rfl
set_option maxRecDepth 20000 in
theorem st_java_lang_System_arraycopy_Ljava_lang_Object_ILjava_lang_Object_II_V_MethodName : Cond.static (⟨"java/lang/System", "arraycopy", "(Ljava/lang/Object;ILjava/lang/Object;II)V"⟩ : MethodName) ∈ TBL := tb_2 209 rfl rfl
set_option maxRecDepth 20000 in
theorem nat_java_lang_System_arraycopy_Ljava_lang_Object_ILjava_lang_Object_II_V_MethodName : Cond.native (⟨"java/lang/System", "arraycopy", "(Ljava/lang/Object;ILjava/lang/Object;II)V"⟩ : MethodName) ∈ TBL := tb_2 210 rfl rfl
set_option maxRecDepth 20000 in
theorem ml_RX7_120 : Cond.methodLink RX7 120 (⟨"[I", "clone", "()Ljava/lang/Object;"⟩ : MethodName) ∈ TBL := tb_2 211 rfl rfl
set_option maxRecDepth 20000 in
theorem cl_RX7_121 : Cond.classLink RX7 121 "[I" ∈ TBL := tb_2 212 rfl rfl
set_option maxRecDepth 20000 in
theorem ac_FieldType_byte : Cond.arrayClass FieldType.byte ∈ TBL := tb_2 213 rfl rfl
set_option maxRecDepth 20000 in
theorem ml_RL_32 : Cond.methodLink RL 32 yX7_force ∈ TBL := tb_2 214 rfl rfl
set_option maxRecDepth 20000 in
theorem im_yX7_force : Cond.instanceMethod yX7_force ∈ TBL := tb_2 215 rfl rfl
set_option maxRecDepth 20000 in
theorem se_yX7_force : Cond.selects RX7 yX7_force yX7_force ∈ TBL := tb_2 216 rfl rfl
set_option maxRecDepth 20000 in
theorem cd_yX7_force : Cond.code yX7_force prog_1_method_6_code 3 (some FieldType.int) ∈ TBL := tb_2 217 rfl rfl
set_option maxRecDepth 20000 in
theorem ml_RL_36 : Cond.methodLink RL 36 yX7_asks ∈ TBL := tb_2 218 rfl rfl
set_option maxRecDepth 20000 in
theorem im_yX7_asks : Cond.instanceMethod yX7_asks ∈ TBL := tb_2 219 rfl rfl
set_option maxRecDepth 20000 in
theorem se_yX7_asks : Cond.selects RX7 yX7_asks yX7_asks ∈ TBL := tb_2 220 rfl rfl
set_option maxRecDepth 20000 in
theorem cd_yX7_asks : Cond.code yX7_asks prog_1_method_7_code 3 (some FieldType.int) ∈ TBL := tb_2 221 rfl rfl
set_option maxRecDepth 20000 in
theorem ml_RX7_125 : Cond.methodLink RX7 125 yX4_seatsOne ∈ TBL := tb_2 222 rfl rfl
set_option maxRecDepth 20000 in
theorem im_yX4_seatsOne : Cond.instanceMethod yX4_seatsOne ∈ TBL := tb_2 223 rfl rfl
set_option maxRecDepth 20000 in
theorem se_yX4_seatsOne : Cond.selects RX4 yX4_seatsOne yX4_seatsOne ∈ TBL := tb_2 224 rfl rfl
set_option maxRecDepth 20000 in
theorem cd_yX4_seatsOne : Cond.code yX4_seatsOne prog_6_method_3_code 2 (some FieldType.boolean) ∈ TBL := tb_2 225 rfl rfl
set_option maxRecDepth 20000 in
theorem ml_RX7_132 : Cond.methodLink RX7 132 yX6_says ∈ TBL := tb_2 226 rfl rfl
set_option maxRecDepth 20000 in
theorem ml_RL_41 : Cond.methodLink RL 41 yX7_guest ∈ TBL := tb_2 227 rfl rfl
set_option maxRecDepth 20000 in
theorem im_yX7_guest : Cond.instanceMethod yX7_guest ∈ TBL := tb_2 228 rfl rfl
set_option maxRecDepth 20000 in
theorem se_yX7_guest : Cond.selects RX7 yX7_guest yX7_guest ∈ TBL := tb_2 229 rfl rfl
set_option maxRecDepth 20000 in
theorem cd_yX7_guest : Cond.code yX7_guest prog_1_method_8_code 4 (some FieldType.int) ∈ TBL := tb_2 230 rfl rfl
set_option maxRecDepth 20000 in
theorem ml_RX7_136 : Cond.methodLink RX7 136 yX0_come ∈ TBL := tb_2 231 rfl rfl
set_option maxRecDepth 20000 in
theorem im_yX0_come : Cond.instanceMethod yX0_come ∈ TBL := tb_2 232 rfl rfl
set_option maxRecDepth 20000 in
theorem se_yX0_come : Cond.selects RX0 yX0_come yX0_come ∈ TBL := tb_2 233 rfl rfl
set_option maxRecDepth 20000 in
theorem cd_yX0_come : Cond.code yX0_come prog_2_method_2_code 4 none ∈ TBL := tb_2 234 rfl rfl
set_option maxRecDepth 20000 in
theorem ml_RL_46 : Cond.methodLink RL 46 yX7_put ∈ TBL := tb_2 235 rfl rfl
set_option maxRecDepth 20000 in
theorem im_yX7_put : Cond.instanceMethod yX7_put ∈ TBL := tb_2 236 rfl rfl
set_option maxRecDepth 20000 in
theorem se_yX7_put : Cond.selects RX7 yX7_put yX7_put ∈ TBL := tb_2 237 rfl rfl
set_option maxRecDepth 20000 in
theorem cd_yX7_put : Cond.code yX7_put prog_1_method_9_code 6 (some FieldType.int) ∈ TBL := tb_2 238 rfl rfl
set_option maxRecDepth 20000 in
theorem ml_RX7_142 : Cond.methodLink RX7 142 yX7_mostOf ∈ TBL := tb_2 239 rfl rfl
set_option maxRecDepth 20000 in
theorem st_yX7_mostOf : Cond.static yX7_mostOf ∈ TBL := tb_3 0 rfl rfl
set_option maxRecDepth 20000 in
theorem cd_yX7_mostOf : Cond.code yX7_mostOf prog_1_method_46_code 1 (some FieldType.int) ∈ TBL := tb_3 1 rfl rfl
set_option maxRecDepth 20000 in
theorem ml_RX7_145 : Cond.methodLink RX7 145 yX0_stateOf ∈ TBL := tb_3 2 rfl rfl
set_option maxRecDepth 20000 in
theorem im_yX0_stateOf : Cond.instanceMethod yX0_stateOf ∈ TBL := tb_3 3 rfl rfl
set_option maxRecDepth 20000 in
theorem se_yX0_stateOf : Cond.selects RX0 yX0_stateOf yX0_stateOf ∈ TBL := tb_3 4 rfl rfl
set_option maxRecDepth 20000 in
theorem cd_yX0_stateOf : Cond.code yX0_stateOf prog_2_method_4_code 2 (some FieldType.int) ∈ TBL := tb_3 5 rfl rfl
set_option maxRecDepth 20000 in
theorem ml_RX7_148 : Cond.methodLink RX7 148 yX0_setState ∈ TBL := tb_3 6 rfl rfl
set_option maxRecDepth 20000 in
theorem im_yX0_setState : Cond.instanceMethod yX0_setState ∈ TBL := tb_3 7 rfl rfl
set_option maxRecDepth 20000 in
theorem se_yX0_setState : Cond.selects RX0 yX0_setState yX0_setState ∈ TBL := tb_3 8 rfl rfl
set_option maxRecDepth 20000 in
theorem cd_yX0_setState : Cond.code yX0_setState prog_2_method_5_code 3 none ∈ TBL := tb_3 9 rfl rfl
set_option maxRecDepth 20000 in
theorem ml_RL_50 : Cond.methodLink RL 50 yX7_told ∈ TBL := tb_3 10 rfl rfl
set_option maxRecDepth 20000 in
theorem im_yX7_told : Cond.instanceMethod yX7_told ∈ TBL := tb_3 11 rfl rfl
set_option maxRecDepth 20000 in
theorem se_yX7_told : Cond.selects RX7 yX7_told yX7_told ∈ TBL := tb_3 12 rfl rfl
set_option maxRecDepth 20000 in
theorem cd_yX7_told : Cond.code yX7_told prog_1_method_10_code 4 (some FieldType.int) ∈ TBL := tb_3 13 rfl rfl
set_option maxRecDepth 20000 in
theorem ml_RX7_158 : Cond.methodLink RX7 158 yX4_actOf ∈ TBL := tb_3 14 rfl rfl
set_option maxRecDepth 20000 in
theorem im_yX4_actOf : Cond.instanceMethod yX4_actOf ∈ TBL := tb_3 15 rfl rfl
set_option maxRecDepth 20000 in
theorem se_yX4_actOf : Cond.selects RX4 yX4_actOf yX4_actOf ∈ TBL := tb_3 16 rfl rfl
set_option maxRecDepth 20000 in
theorem cd_yX4_actOf : Cond.code yX4_actOf prog_6_method_9_code 4 (some FieldType.int) ∈ TBL := tb_3 17 rfl rfl
set_option maxRecDepth 20000 in
theorem st_yX7_holds : Cond.static yX7_holds ∈ TBL := tb_3 19 rfl rfl
set_option maxRecDepth 20000 in
theorem cd_yX7_holds : Cond.code yX7_holds prog_1_method_47_code 2 (some FieldType.boolean) ∈ TBL := tb_3 20 rfl rfl
set_option maxRecDepth 20000 in
theorem ml_RX7_162 : Cond.methodLink RX7 162 yX4_isStuck ∈ TBL := tb_3 21 rfl rfl
set_option maxRecDepth 20000 in
theorem ml_RX7_166 : Cond.methodLink RX7 166 yX4_toldBy ∈ TBL := tb_3 22 rfl rfl
set_option maxRecDepth 20000 in
theorem im_yX4_toldBy : Cond.instanceMethod yX4_toldBy ∈ TBL := tb_3 23 rfl rfl
set_option maxRecDepth 20000 in
theorem se_yX4_toldBy : Cond.selects RX4 yX4_toldBy yX4_toldBy ∈ TBL := tb_3 24 rfl rfl
set_option maxRecDepth 20000 in
theorem cd_yX4_toldBy : Cond.code yX4_toldBy prog_6_method_8_code 4 (some FieldType.int) ∈ TBL := tb_3 25 rfl rfl
set_option maxRecDepth 20000 in
theorem ml_RX4_58 : Cond.methodLink RX4 58 yX4_seatsOne ∈ TBL := tb_3 26 rfl rfl
set_option maxRecDepth 20000 in
theorem ml_RX4_62 : Cond.methodLink RX4 62 yJ9_floorMod_7cf53 ∈ TBL := tb_3 27 rfl rfl
set_option maxRecDepth 20000 in
theorem st_yJ9_floorMod_7cf53 : Cond.static yJ9_floorMod_7cf53 ∈ TBL := tb_3 28 rfl rfl
set_option maxRecDepth 20000 in
theorem cd_yJ9_floorMod_7cf53 : Cond.code yJ9_floorMod_7cf53 prog_13_method_50_code 3 (some FieldType.int) ∈ TBL := tb_3 29 rfl rfl
set_option maxRecDepth 20000 in
theorem ml_RL_54 : Cond.methodLink RL 54 yX7_manners ∈ TBL := tb_3 30 rfl rfl
set_option maxRecDepth 20000 in
theorem im_yX7_manners : Cond.instanceMethod yX7_manners ∈ TBL := tb_3 31 rfl rfl
set_option maxRecDepth 20000 in
theorem se_yX7_manners : Cond.selects RX7 yX7_manners yX7_manners ∈ TBL := tb_3 32 rfl rfl
set_option maxRecDepth 20000 in
theorem cd_yX7_manners : Cond.code yX7_manners prog_1_method_11_code 4 (some FieldType.int) ∈ TBL := tb_3 33 rfl rfl
set_option maxRecDepth 20000 in
theorem ml_RX7_169 : Cond.methodLink RX7 169 yX4_minded ∈ TBL := tb_3 34 rfl rfl
set_option maxRecDepth 20000 in
theorem ml_RX7_172 : Cond.methodLink RX7 172 yX7_holds ∈ TBL := tb_3 35 rfl rfl
set_option maxRecDepth 20000 in
theorem ml_RX7_176 : Cond.methodLink RX7 176 yX4_eatenBy ∈ TBL := tb_3 36 rfl rfl
set_option maxRecDepth 20000 in
theorem im_yX4_eatenBy : Cond.instanceMethod yX4_eatenBy ∈ TBL := tb_3 37 rfl rfl
set_option maxRecDepth 20000 in
theorem se_yX4_eatenBy : Cond.selects RX4 yX4_eatenBy yX4_eatenBy ∈ TBL := tb_3 38 rfl rfl
set_option maxRecDepth 20000 in
theorem cd_yX4_eatenBy : Cond.code yX4_eatenBy prog_6_method_7_code 4 (some FieldType.int) ∈ TBL := tb_3 39 rfl rfl
set_option maxRecDepth 20000 in
theorem ml_RL_58 : Cond.methodLink RL 58 yX7_dinner ∈ TBL := tb_3 40 rfl rfl
set_option maxRecDepth 20000 in
theorem im_yX7_dinner : Cond.instanceMethod yX7_dinner ∈ TBL := tb_3 41 rfl rfl
set_option maxRecDepth 20000 in
theorem se_yX7_dinner : Cond.selects RX7 yX7_dinner yX7_dinner ∈ TBL := tb_3 42 rfl rfl
set_option maxRecDepth 20000 in
theorem cd_yX7_dinner : Cond.code yX7_dinner prog_1_method_12_code 2 (some FieldType.int) ∈ TBL := tb_3 43 rfl rfl
set_option maxRecDepth 20000 in
theorem ml_RX7_180 : Cond.methodLink RX7 180 yX4_dangerBits ∈ TBL := tb_3 44 rfl rfl
set_option maxRecDepth 20000 in
theorem im_yX4_dangerBits : Cond.instanceMethod yX4_dangerBits ∈ TBL := tb_3 45 rfl rfl
set_option maxRecDepth 20000 in
theorem se_yX4_dangerBits : Cond.selects RX4 yX4_dangerBits yX4_dangerBits ∈ TBL := tb_3 46 rfl rfl
set_option maxRecDepth 20000 in
theorem cd_yX4_dangerBits : Cond.code yX4_dangerBits prog_6_method_18_code 3 (some FieldType.int) ∈ TBL := tb_3 47 rfl rfl
set_option maxRecDepth 20000 in
theorem ml_RX7_183 : Cond.methodLink RX7 183 yX4_rightForAnybody ∈ TBL := tb_3 48 rfl rfl
set_option maxRecDepth 20000 in
theorem im_yX4_rightForAnybody : Cond.instanceMethod yX4_rightForAnybody ∈ TBL := tb_3 49 rfl rfl
set_option maxRecDepth 20000 in
theorem se_yX4_rightForAnybody : Cond.selects RX4 yX4_rightForAnybody yX4_rightForAnybody ∈ TBL := tb_3 50 rfl rfl
set_option maxRecDepth 20000 in
theorem cd_yX4_rightForAnybody : Cond.code yX4_rightForAnybody prog_6_method_19_code 3 (some FieldType.int) ∈ TBL := tb_3 51 rfl rfl
set_option maxRecDepth 20000 in
theorem ml_RX7_186 : Cond.methodLink RX7 186 yX4_rightForAll ∈ TBL := tb_3 52 rfl rfl
set_option maxRecDepth 20000 in
theorem im_yX4_rightForAll : Cond.instanceMethod yX4_rightForAll ∈ TBL := tb_3 53 rfl rfl
set_option maxRecDepth 20000 in
theorem se_yX4_rightForAll : Cond.selects RX4 yX4_rightForAll yX4_rightForAll ∈ TBL := tb_3 54 rfl rfl
set_option maxRecDepth 20000 in
theorem cd_yX4_rightForAll : Cond.code yX4_rightForAll prog_6_method_20_code 3 (some FieldType.int) ∈ TBL := tb_3 55 rfl rfl
set_option maxRecDepth 20000 in
theorem ml_RX7_189 : Cond.methodLink RX7 189 yX4_ateTogether ∈ TBL := tb_3 56 rfl rfl
set_option maxRecDepth 20000 in
theorem im_yX4_ateTogether : Cond.instanceMethod yX4_ateTogether ∈ TBL := tb_3 57 rfl rfl
set_option maxRecDepth 20000 in
theorem se_yX4_ateTogether : Cond.selects RX4 yX4_ateTogether yX4_ateTogether ∈ TBL := tb_3 58 rfl rfl
set_option maxRecDepth 20000 in
theorem cd_yX4_ateTogether : Cond.code yX4_ateTogether prog_6_method_21_code 3 (some FieldType.int) ∈ TBL := tb_3 59 rfl rfl
set_option maxRecDepth 20000 in
theorem ml_RL_62 : Cond.methodLink RL 62 yX7_minute ∈ TBL := tb_3 60 rfl rfl
set_option maxRecDepth 20000 in
theorem im_yX7_minute : Cond.instanceMethod yX7_minute ∈ TBL := tb_3 61 rfl rfl
set_option maxRecDepth 20000 in
theorem se_yX7_minute : Cond.selects RX7 yX7_minute yX7_minute ∈ TBL := tb_3 62 rfl rfl
set_option maxRecDepth 20000 in
theorem cd_yX7_minute : Cond.code yX7_minute prog_1_method_13_code 1 (some FieldType.int) ∈ TBL := tb_3 63 rfl rfl
set_option maxRecDepth 20000 in
theorem ml_RX7_192 : Cond.methodLink RX7 192 yX4_pass ∈ TBL := tb_3 64 rfl rfl
set_option maxRecDepth 20000 in
theorem im_yX4_pass : Cond.instanceMethod yX4_pass ∈ TBL := tb_3 65 rfl rfl
set_option maxRecDepth 20000 in
theorem se_yX4_pass : Cond.selects RX4 yX4_pass yX4_pass ∈ TBL := tb_3 66 rfl rfl
set_option maxRecDepth 20000 in
theorem cd_yX4_pass : Cond.code yX4_pass prog_6_method_12_code 4 (some FieldType.int) ∈ TBL := tb_3 67 rfl rfl
set_option maxRecDepth 20000 in
theorem ml_RX4_94 : Cond.methodLink RX4 94 yX4_actOf ∈ TBL := tb_3 68 rfl rfl
set_option maxRecDepth 20000 in
theorem ml_RX4_91 : Cond.methodLink RX4 91 yJ9_min_7cf53 ∈ TBL := tb_3 69 rfl rfl
set_option maxRecDepth 20000 in
theorem ml_RX4_100 : Cond.methodLink RX4 100 yX4_perform ∈ TBL := tb_3 70 rfl rfl
set_option maxRecDepth 20000 in
theorem im_yX4_perform : Cond.instanceMethod yX4_perform ∈ TBL := tb_3 71 rfl rfl
set_option maxRecDepth 20000 in
theorem se_yX4_perform : Cond.selects RX4 yX4_perform yX4_perform ∈ TBL := tb_3 72 rfl rfl
set_option maxRecDepth 20000 in
theorem cd_yX4_perform : Cond.code yX4_perform prog_6_method_11_code 6 none ∈ TBL := tb_3 73 rfl rfl
set_option maxRecDepth 20000 in
theorem ml_RX4_80 : Cond.methodLink RX4 80 yX4_eatenBy ∈ TBL := tb_3 74 rfl rfl
set_option maxRecDepth 20000 in
theorem ml_RX4_84 : Cond.methodLink RX4 84 yX4_toldBy ∈ TBL := tb_3 75 rfl rfl
set_option maxRecDepth 20000 in
theorem ml_RL_66 : Cond.methodLink RL 66 yX7_act ∈ TBL := tb_3 76 rfl rfl
set_option maxRecDepth 20000 in
theorem im_yX7_act : Cond.instanceMethod yX7_act ∈ TBL := tb_3 77 rfl rfl
set_option maxRecDepth 20000 in
theorem se_yX7_act : Cond.selects RX7 yX7_act yX7_act ∈ TBL := tb_3 78 rfl rfl
set_option maxRecDepth 20000 in
theorem cd_yX7_act : Cond.code yX7_act prog_1_method_14_code 3 (some FieldType.int) ∈ TBL := tb_3 79 rfl rfl
set_option maxRecDepth 20000 in
theorem ml_RX7_195 : Cond.methodLink RX7 195 yX4_perform ∈ TBL := tb_3 80 rfl rfl
set_option maxRecDepth 20000 in
theorem ml_RL_70 : Cond.methodLink RL 70 yX7_swap ∈ TBL := tb_3 81 rfl rfl
set_option maxRecDepth 20000 in
theorem im_yX7_swap : Cond.instanceMethod yX7_swap ∈ TBL := tb_3 82 rfl rfl
set_option maxRecDepth 20000 in
theorem se_yX7_swap : Cond.selects RX7 yX7_swap yX7_swap ∈ TBL := tb_3 83 rfl rfl
set_option maxRecDepth 20000 in
theorem cd_yX7_swap : Cond.code yX7_swap prog_1_method_15_code 3 (some FieldType.int) ∈ TBL := tb_3 84 rfl rfl
set_option maxRecDepth 20000 in
theorem ml_RX7_198 : Cond.methodLink RX7 198 yX4_exchange ∈ TBL := tb_3 85 rfl rfl
set_option maxRecDepth 20000 in
theorem im_yX4_exchange : Cond.instanceMethod yX4_exchange ∈ TBL := tb_3 86 rfl rfl
set_option maxRecDepth 20000 in
theorem se_yX4_exchange : Cond.selects RX4 yX4_exchange yX4_exchange ∈ TBL := tb_3 87 rfl rfl
set_option maxRecDepth 20000 in
theorem cd_yX4_exchange : Cond.code yX4_exchange prog_6_method_16_code 4 none ∈ TBL := tb_3 88 rfl rfl
set_option maxRecDepth 20000 in
theorem ml_RL_74 : Cond.methodLink RL 74 yX7_run ∈ TBL := tb_3 89 rfl rfl
set_option maxRecDepth 20000 in
theorem im_yX7_run : Cond.instanceMethod yX7_run ∈ TBL := tb_3 90 rfl rfl
set_option maxRecDepth 20000 in
theorem se_yX7_run : Cond.selects RX7 yX7_run yX7_run ∈ TBL := tb_3 91 rfl rfl
set_option maxRecDepth 20000 in
theorem cd_yX7_run : Cond.code yX7_run prog_1_method_16_code 7 (some FieldType.int) ∈ TBL := tb_3 92 rfl rfl
set_option maxRecDepth 20000 in
theorem ml_RX7_204 : Cond.methodLink RX7 204 yX7_isRun ∈ TBL := tb_3 93 rfl rfl
set_option maxRecDepth 20000 in
theorem st_yX7_isRun : Cond.static yX7_isRun ∈ TBL := tb_3 94 rfl rfl
set_option maxRecDepth 20000 in
theorem cd_yX7_isRun : Cond.code yX7_isRun prog_1_method_50_code 1 (some FieldType.boolean) ∈ TBL := tb_3 95 rfl rfl
set_option maxRecDepth 20000 in
theorem ml_RX7_207 : Cond.methodLink RX7 207 yX7_think ∈ TBL := tb_3 96 rfl rfl
set_option maxRecDepth 20000 in
theorem im_yX7_think : Cond.instanceMethod yX7_think ∈ TBL := tb_3 98 rfl rfl
set_option maxRecDepth 20000 in
theorem cd_yX7_think : Cond.code yX7_think prog_1_method_40_code 1 none ∈ TBL := tb_3 99 rfl rfl
set_option maxRecDepth 20000 in
theorem ml_RX7_266 : Cond.methodLink RX7 266 yX4_become ∈ TBL := tb_3 100 rfl rfl
set_option maxRecDepth 20000 in
theorem im_yX4_become : Cond.instanceMethod yX4_become ∈ TBL := tb_3 101 rfl rfl
set_option maxRecDepth 20000 in
theorem se_yX4_become : Cond.selects RX4 yX4_become yX4_become ∈ TBL := tb_3 102 rfl rfl
set_option maxRecDepth 20000 in
theorem cd_yX4_become : Cond.code yX4_become prog_6_method_2_code 3 none ∈ TBL := tb_3 103 rfl rfl
set_option maxRecDepth 20000 in
theorem ml_RX4_29 : Cond.methodLink RX4 29 yX0_become ∈ TBL := tb_3 104 rfl rfl
set_option maxRecDepth 20000 in
theorem im_yX0_become : Cond.instanceMethod yX0_become ∈ TBL := tb_3 105 rfl rfl
set_option maxRecDepth 20000 in
theorem se_yX0_become : Cond.selects RX0 yX0_become yX0_become ∈ TBL := tb_3 106 rfl rfl
set_option maxRecDepth 20000 in
theorem cd_yX0_become : Cond.code yX0_become prog_2_method_3_code 2 none ∈ TBL := tb_3 107 rfl rfl
set_option maxRecDepth 20000 in
theorem ml_RL_78 : Cond.methodLink RL 78 yX7_when ∈ TBL := tb_3 108 rfl rfl
set_option maxRecDepth 20000 in
theorem im_yX7_when : Cond.instanceMethod yX7_when ∈ TBL := tb_3 109 rfl rfl
set_option maxRecDepth 20000 in
theorem se_yX7_when : Cond.selects RX7 yX7_when yX7_when ∈ TBL := tb_3 110 rfl rfl
set_option maxRecDepth 20000 in
theorem cd_yX7_when : Cond.code yX7_when prog_1_method_17_code 6 (some FieldType.int) ∈ TBL := tb_3 111 rfl rfl
set_option maxRecDepth 20000 in
theorem ml_RL_82 : Cond.methodLink RL 82 yX7_poker ∈ TBL := tb_3 112 rfl rfl
set_option maxRecDepth 20000 in
theorem im_yX7_poker : Cond.instanceMethod yX7_poker ∈ TBL := tb_3 113 rfl rfl
set_option maxRecDepth 20000 in
theorem se_yX7_poker : Cond.selects RX7 yX7_poker yX7_poker ∈ TBL := tb_3 114 rfl rfl
set_option maxRecDepth 20000 in
theorem cd_yX7_poker : Cond.code yX7_poker prog_1_method_18_code 7 (some FieldType.int) ∈ TBL := tb_3 115 rfl rfl
set_option maxRecDepth 20000 in
theorem ml_RX7_216 : Cond.methodLink RX7 216 yX7_isChoice ∈ TBL := tb_3 116 rfl rfl
set_option maxRecDepth 20000 in
theorem st_yX7_isChoice : Cond.static yX7_isChoice ∈ TBL := tb_3 117 rfl rfl
set_option maxRecDepth 20000 in
theorem cd_yX7_isChoice : Cond.code yX7_isChoice prog_1_method_49_code 1 (some FieldType.boolean) ∈ TBL := tb_3 118 rfl rfl
set_option maxRecDepth 20000 in
theorem ml_RX7_219 : Cond.methodLink RX7 219 yX4_stuckBehind ∈ TBL := tb_3 119 rfl rfl
set_option maxRecDepth 20000 in
theorem im_yX4_stuckBehind : Cond.instanceMethod yX4_stuckBehind ∈ TBL := tb_3 120 rfl rfl
set_option maxRecDepth 20000 in
theorem se_yX4_stuckBehind : Cond.selects RX4 yX4_stuckBehind yX4_stuckBehind ∈ TBL := tb_3 121 rfl rfl
set_option maxRecDepth 20000 in
theorem cd_yX4_stuckBehind : Cond.code yX4_stuckBehind prog_6_method_13_code 3 (some FieldType.int) ∈ TBL := tb_3 122 rfl rfl
set_option maxRecDepth 20000 in
theorem ml_RX4_104 : Cond.methodLink RX4 104 yX4_pass ∈ TBL := tb_3 123 rfl rfl
set_option maxRecDepth 20000 in
theorem ml_RX4_108 : Cond.methodLink RX4 108 yX4_stuckBits ∈ TBL := tb_3 124 rfl rfl
set_option maxRecDepth 20000 in
theorem ml_RX4_111 : Cond.methodLink RX4 111 yJ6_bitCount_0f7a4 ∈ TBL := tb_3 125 rfl rfl
set_option maxRecDepth 20000 in
theorem ml_RX7_222 : Cond.methodLink RX7 222 yX4_makeRight ∈ TBL := tb_3 126 rfl rfl
set_option maxRecDepth 20000 in
theorem im_yX4_makeRight : Cond.instanceMethod yX4_makeRight ∈ TBL := tb_3 127 rfl rfl
set_option maxRecDepth 20000 in
theorem se_yX4_makeRight : Cond.selects RX4 yX4_makeRight yX4_makeRight ∈ TBL := tb_3 128 rfl rfl
set_option maxRecDepth 20000 in
theorem cd_yX4_makeRight : Cond.code yX4_makeRight prog_6_method_15_code 3 none ∈ TBL := tb_3 129 rfl rfl
set_option maxRecDepth 20000 in
theorem ml_RL_86 : Cond.methodLink RL 86 yX7_forgive ∈ TBL := tb_3 130 rfl rfl
set_option maxRecDepth 20000 in
theorem im_yX7_forgive : Cond.instanceMethod yX7_forgive ∈ TBL := tb_3 131 rfl rfl
set_option maxRecDepth 20000 in
theorem se_yX7_forgive : Cond.selects RX7 yX7_forgive yX7_forgive ∈ TBL := tb_3 132 rfl rfl
set_option maxRecDepth 20000 in
theorem cd_yX7_forgive : Cond.code yX7_forgive prog_1_method_19_code 8 (some FieldType.int) ∈ TBL := tb_3 133 rfl rfl
set_option maxRecDepth 20000 in
theorem ml_RL_90 : Cond.methodLink RL 90 yX7_alarm ∈ TBL := tb_3 134 rfl rfl
set_option maxRecDepth 20000 in
theorem im_yX7_alarm : Cond.instanceMethod yX7_alarm ∈ TBL := tb_3 135 rfl rfl
set_option maxRecDepth 20000 in
theorem se_yX7_alarm : Cond.selects RX7 yX7_alarm yX7_alarm ∈ TBL := tb_3 136 rfl rfl
set_option maxRecDepth 20000 in
theorem cd_yX7_alarm : Cond.code yX7_alarm prog_1_method_20_code 7 (some FieldType.int) ∈ TBL := tb_3 137 rfl rfl
set_option maxRecDepth 20000 in
theorem ml_RX7_225 : Cond.methodLink RX7 225 yX4_ateBehind ∈ TBL := tb_3 138 rfl rfl
set_option maxRecDepth 20000 in
theorem im_yX4_ateBehind : Cond.instanceMethod yX4_ateBehind ∈ TBL := tb_3 139 rfl rfl
set_option maxRecDepth 20000 in
theorem se_yX4_ateBehind : Cond.selects RX4 yX4_ateBehind yX4_ateBehind ∈ TBL := tb_3 140 rfl rfl
set_option maxRecDepth 20000 in
theorem cd_yX4_ateBehind : Cond.code yX4_ateBehind prog_6_method_14_code 3 (some FieldType.int) ∈ TBL := tb_3 141 rfl rfl
set_option maxRecDepth 20000 in
theorem ml_RX4_116 : Cond.methodLink RX4 116 yX4_ateTogether ∈ TBL := tb_3 142 rfl rfl
set_option maxRecDepth 20000 in
theorem ml_RL_94 : Cond.methodLink RL 94 yX7_change ∈ TBL := tb_3 143 rfl rfl
set_option maxRecDepth 20000 in
theorem im_yX7_change : Cond.instanceMethod yX7_change ∈ TBL := tb_3 144 rfl rfl
set_option maxRecDepth 20000 in
theorem se_yX7_change : Cond.selects RX7 yX7_change yX7_change ∈ TBL := tb_3 145 rfl rfl
set_option maxRecDepth 20000 in
theorem cd_yX7_change : Cond.code yX7_change prog_1_method_21_code 8 (some FieldType.int) ∈ TBL := tb_3 146 rfl rfl
set_option maxRecDepth 20000 in
theorem ml_RL_98 : Cond.methodLink RL 98 yX7_bold ∈ TBL := tb_3 147 rfl rfl
set_option maxRecDepth 20000 in
theorem im_yX7_bold : Cond.instanceMethod yX7_bold ∈ TBL := tb_3 148 rfl rfl
set_option maxRecDepth 20000 in
theorem se_yX7_bold : Cond.selects RX7 yX7_bold yX7_bold ∈ TBL := tb_3 149 rfl rfl
set_option maxRecDepth 20000 in
theorem cd_yX7_bold : Cond.code yX7_bold prog_1_method_22_code 4 (some FieldType.int) ∈ TBL := tb_3 150 rfl rfl
set_option maxRecDepth 20000 in
theorem ml_RL_102 : Cond.methodLink RL 102 yX7_mean ∈ TBL := tb_3 151 rfl rfl
set_option maxRecDepth 20000 in
theorem im_yX7_mean : Cond.instanceMethod yX7_mean ∈ TBL := tb_3 152 rfl rfl
set_option maxRecDepth 20000 in
theorem se_yX7_mean : Cond.selects RX7 yX7_mean yX7_mean ∈ TBL := tb_3 153 rfl rfl
set_option maxRecDepth 20000 in
theorem cd_yX7_mean : Cond.code yX7_mean prog_1_method_23_code 2 (some FieldType.long) ∈ TBL := tb_3 154 rfl rfl
set_option maxRecDepth 20000 in
theorem kl_RX7_235 : Cond.constantLong RX7 235 (-4611686018427387904) ∈ TBL := tb_3 155 rfl rfl
set_option maxRecDepth 20000 in
theorem ml_RX7_237 : Cond.methodLink RX7 237 yX4_boredTogether ∈ TBL := tb_3 156 rfl rfl
set_option maxRecDepth 20000 in
theorem im_yX4_boredTogether : Cond.instanceMethod yX4_boredTogether ∈ TBL := tb_3 157 rfl rfl
set_option maxRecDepth 20000 in
theorem se_yX4_boredTogether : Cond.selects RX4 yX4_boredTogether yX4_boredTogether ∈ TBL := tb_3 158 rfl rfl
set_option maxRecDepth 20000 in
theorem cd_yX4_boredTogether : Cond.code yX4_boredTogether prog_6_method_22_code 3 (some FieldType.int) ∈ TBL := tb_3 159 rfl rfl
set_option maxRecDepth 20000 in
theorem ml_RX7_240 : Cond.methodLink RX7 240 yX7_partOfFraction ∈ TBL := tb_3 160 rfl rfl
set_option maxRecDepth 20000 in
theorem st_yX7_partOfFraction : Cond.static yX7_partOfFraction ∈ TBL := tb_3 161 rfl rfl
set_option maxRecDepth 20000 in
theorem cd_yX7_partOfFraction : Cond.code yX7_partOfFraction prog_1_method_44_code 5 (some FieldType.long) ∈ TBL := tb_3 162 rfl rfl
set_option maxRecDepth 20000 in
theorem ml_RL_107 : Cond.methodLink RL 107 yX7_judge ∈ TBL := tb_3 163 rfl rfl
set_option maxRecDepth 20000 in
theorem im_yX7_judge : Cond.instanceMethod yX7_judge ∈ TBL := tb_3 164 rfl rfl
set_option maxRecDepth 20000 in
theorem se_yX7_judge : Cond.selects RX7 yX7_judge yX7_judge ∈ TBL := tb_3 165 rfl rfl
set_option maxRecDepth 20000 in
theorem cd_yX7_judge : Cond.code yX7_judge prog_1_method_24_code 3 (some FieldType.int) ∈ TBL := tb_3 166 rfl rfl
set_option maxRecDepth 20000 in
theorem ml_RX7_244 : Cond.methodLink RX7 244 yX7_refusalOfTale ∈ TBL := tb_3 167 rfl rfl
set_option maxRecDepth 20000 in
theorem im_yX7_refusalOfTale : Cond.instanceMethod yX7_refusalOfTale ∈ TBL := tb_3 169 rfl rfl
set_option maxRecDepth 20000 in
theorem cd_yX7_refusalOfTale : Cond.code yX7_refusalOfTale prog_1_method_42_code 2 (some FieldType.int) ∈ TBL := tb_3 170 rfl rfl
set_option maxRecDepth 20000 in
theorem ml_RX7_251 : Cond.methodLink RX7 251 yX7_isSheet ∈ TBL := tb_3 171 rfl rfl
set_option maxRecDepth 20000 in
theorem st_yX7_isSheet : Cond.static yX7_isSheet ∈ TBL := tb_3 172 rfl rfl
set_option maxRecDepth 20000 in
theorem cd_yX7_isSheet : Cond.code yX7_isSheet prog_1_method_52_code 1 (some FieldType.boolean) ∈ TBL := tb_3 173 rfl rfl
set_option maxRecDepth 20000 in
theorem ml_RX7_247 : Cond.methodLink RX7 247 yX7_firstOther ∈ TBL := tb_3 174 rfl rfl
set_option maxRecDepth 20000 in
theorem im_yX7_firstOther : Cond.instanceMethod yX7_firstOther ∈ TBL := tb_3 176 rfl rfl
set_option maxRecDepth 20000 in
theorem cd_yX7_firstOther : Cond.code yX7_firstOther prog_1_method_41_code 3 (some FieldType.int) ∈ TBL := tb_3 177 rfl rfl
set_option maxRecDepth 20000 in
theorem ml_RL_111 : Cond.methodLink RL 111 yX7_kinds ∈ TBL := tb_3 178 rfl rfl
set_option maxRecDepth 20000 in
theorem im_yX7_kinds : Cond.instanceMethod yX7_kinds ∈ TBL := tb_3 179 rfl rfl
set_option maxRecDepth 20000 in
theorem se_yX7_kinds : Cond.selects RX7 yX7_kinds yX7_kinds ∈ TBL := tb_3 180 rfl rfl
set_option maxRecDepth 20000 in
theorem cd_yX7_kinds : Cond.code yX7_kinds prog_1_method_25_code 8 (some FieldType.int) ∈ TBL := tb_3 181 rfl rfl
set_option maxRecDepth 20000 in
theorem ml_RL_115 : Cond.methodLink RL 115 yX7_turned ∈ TBL := tb_3 182 rfl rfl
set_option maxRecDepth 20000 in
theorem im_yX7_turned : Cond.instanceMethod yX7_turned ∈ TBL := tb_3 183 rfl rfl
set_option maxRecDepth 20000 in
theorem se_yX7_turned : Cond.selects RX7 yX7_turned yX7_turned ∈ TBL := tb_3 184 rfl rfl
set_option maxRecDepth 20000 in
theorem cd_yX7_turned : Cond.code yX7_turned prog_1_method_26_code 6 (some FieldType.int) ∈ TBL := tb_3 185 rfl rfl
set_option maxRecDepth 20000 in
theorem ml_RL_119 : Cond.methodLink RL 119 yX7_states ∈ TBL := tb_3 186 rfl rfl
set_option maxRecDepth 20000 in
theorem im_yX7_states : Cond.instanceMethod yX7_states ∈ TBL := tb_3 187 rfl rfl
set_option maxRecDepth 20000 in
theorem se_yX7_states : Cond.selects RX7 yX7_states yX7_states ∈ TBL := tb_3 188 rfl rfl
set_option maxRecDepth 20000 in
theorem cd_yX7_states : Cond.code yX7_states prog_1_method_27_code 9 (some FieldType.int) ∈ TBL := tb_3 189 rfl rfl
set_option maxRecDepth 20000 in
theorem ml_RL_124 : Cond.methodLink RL 124 yX7_feared ∈ TBL := tb_3 190 rfl rfl
set_option maxRecDepth 20000 in
theorem im_yX7_feared : Cond.instanceMethod yX7_feared ∈ TBL := tb_3 191 rfl rfl
set_option maxRecDepth 20000 in
theorem se_yX7_feared : Cond.selects RX7 yX7_feared yX7_feared ∈ TBL := tb_3 192 rfl rfl
set_option maxRecDepth 20000 in
theorem cd_yX7_feared : Cond.code yX7_feared prog_1_method_28_code 5 (some FieldType.int) ∈ TBL := tb_3 193 rfl rfl
set_option maxRecDepth 20000 in
theorem ml_RL_128 : Cond.methodLink RL 128 yX7_laws ∈ TBL := tb_3 194 rfl rfl
set_option maxRecDepth 20000 in
theorem im_yX7_laws : Cond.instanceMethod yX7_laws ∈ TBL := tb_3 195 rfl rfl
set_option maxRecDepth 20000 in
theorem se_yX7_laws : Cond.selects RX7 yX7_laws yX7_laws ∈ TBL := tb_3 196 rfl rfl
set_option maxRecDepth 20000 in
theorem cd_yX7_laws : Cond.code yX7_laws prog_1_method_29_code 5 (some FieldType.int) ∈ TBL := tb_3 197 rfl rfl
set_option maxRecDepth 20000 in
theorem ml_RL_132 : Cond.methodLink RL 132 yX7_film ∈ TBL := tb_3 198 rfl rfl
set_option maxRecDepth 20000 in
theorem im_yX7_film : Cond.instanceMethod yX7_film ∈ TBL := tb_3 199 rfl rfl
set_option maxRecDepth 20000 in
theorem se_yX7_film : Cond.selects RX7 yX7_film yX7_film ∈ TBL := tb_3 200 rfl rfl
set_option maxRecDepth 20000 in
theorem cd_yX7_film : Cond.code yX7_film prog_1_method_30_code 4 (some FieldType.int) ∈ TBL := tb_3 201 rfl rfl
set_option maxRecDepth 20000 in
theorem ml_RX7_254 : Cond.methodLink RX7 254 yX3_become ∈ TBL := tb_3 202 rfl rfl
set_option maxRecDepth 20000 in
theorem im_yX3_become : Cond.instanceMethod yX3_become ∈ TBL := tb_3 203 rfl rfl
set_option maxRecDepth 20000 in
theorem se_yX3_become : Cond.selects RX3 yX3_become yX3_become ∈ TBL := tb_3 204 rfl rfl
set_option maxRecDepth 20000 in
theorem cd_yX3_become : Cond.code yX3_become prog_5_method_2_code 3 none ∈ TBL := tb_3 205 rfl rfl
set_option maxRecDepth 20000 in
theorem ml_RX3_22 : Cond.methodLink RX3 22 yJ7_fill_53178 ∈ TBL := tb_3 206 rfl rfl
set_option maxRecDepth 20000 in
theorem st_yJ7_fill_53178 : Cond.static yJ7_fill_53178 ∈ TBL := tb_3 207 rfl rfl
set_option maxRecDepth 20000 in
theorem cd_yJ7_fill_53178 : Cond.code yJ7_fill_53178 prog_18_method_103_code 4 none ∈ TBL := tb_3 208 rfl rfl
set_option maxRecDepth 20000 in
theorem ml_RX7_257 : Cond.methodLink RX7 257 yX3_set ∈ TBL := tb_3 209 rfl rfl
set_option maxRecDepth 20000 in
theorem im_yX3_set : Cond.instanceMethod yX3_set ∈ TBL := tb_3 210 rfl rfl
set_option maxRecDepth 20000 in
theorem se_yX3_set : Cond.selects RX3 yX3_set yX3_set ∈ TBL := tb_3 211 rfl rfl
set_option maxRecDepth 20000 in
theorem cd_yX3_set : Cond.code yX3_set prog_5_method_3_code 3 none ∈ TBL := tb_3 212 rfl rfl
set_option maxRecDepth 20000 in
theorem ml_RL_136 : Cond.methodLink RL 136 yX7_drawn ∈ TBL := tb_3 213 rfl rfl
set_option maxRecDepth 20000 in
theorem im_yX7_drawn : Cond.instanceMethod yX7_drawn ∈ TBL := tb_3 214 rfl rfl
set_option maxRecDepth 20000 in
theorem se_yX7_drawn : Cond.selects RX7 yX7_drawn yX7_drawn ∈ TBL := tb_3 215 rfl rfl
set_option maxRecDepth 20000 in
theorem cd_yX7_drawn : Cond.code yX7_drawn prog_1_method_31_code 4 (some FieldType.int) ∈ TBL := tb_3 216 rfl rfl
set_option maxRecDepth 20000 in
theorem ml_RX7_260 : Cond.methodLink RX7 260 yX7_isSeed ∈ TBL := tb_3 217 rfl rfl
set_option maxRecDepth 20000 in
theorem st_yX7_isSeed : Cond.static yX7_isSeed ∈ TBL := tb_3 218 rfl rfl
set_option maxRecDepth 20000 in
theorem cd_yX7_isSeed : Cond.code yX7_isSeed prog_1_method_51_code 1 (some FieldType.boolean) ∈ TBL := tb_3 219 rfl rfl
set_option maxRecDepth 20000 in
theorem kc_RX7_303 : Cond.constant RX7 303 100000 ∈ TBL := tb_3 220 rfl rfl
set_option maxRecDepth 20000 in
theorem ml_RX7_263 : Cond.methodLink RX7 263 yX7_actsByLots ∈ TBL := tb_3 221 rfl rfl
set_option maxRecDepth 20000 in
theorem im_yX7_actsByLots : Cond.instanceMethod yX7_actsByLots ∈ TBL := tb_3 223 rfl rfl
set_option maxRecDepth 20000 in
theorem cd_yX7_actsByLots : Cond.code yX7_actsByLots prog_1_method_43_code 8 (some FieldType.int) ∈ TBL := tb_3 224 rfl rfl
set_option maxRecDepth 20000 in
theorem kl_RX7_292 : Cond.constantLong RX7 292 48271 ∈ TBL := tb_3 225 rfl rfl
set_option maxRecDepth 20000 in
theorem kl_RX7_294 : Cond.constantLong RX7 294 2147483647 ∈ TBL := tb_3 226 rfl rfl
set_option maxRecDepth 20000 in
theorem kl_RX7_296 : Cond.constantLong RX7 296 6 ∈ TBL := tb_3 227 rfl rfl
set_option maxRecDepth 20000 in
theorem kl_RX7_298 : Cond.constantLong RX7 298 10 ∈ TBL := tb_3 228 rfl rfl
set_option maxRecDepth 20000 in
theorem ml_RL_140 : Cond.methodLink RL 140 yX7_odds ∈ TBL := tb_3 229 rfl rfl
set_option maxRecDepth 20000 in
theorem im_yX7_odds : Cond.instanceMethod yX7_odds ∈ TBL := tb_3 230 rfl rfl
set_option maxRecDepth 20000 in
theorem se_yX7_odds : Cond.selects RX7 yX7_odds yX7_odds ∈ TBL := tb_3 231 rfl rfl
set_option maxRecDepth 20000 in
theorem cd_yX7_odds : Cond.code yX7_odds prog_1_method_32_code 7 (some FieldType.long) ∈ TBL := tb_3 232 rfl rfl
set_option maxRecDepth 20000 in
theorem ml_RL_145 : Cond.methodLink RL 145 yX7_image ∈ TBL := tb_3 233 rfl rfl
set_option maxRecDepth 20000 in
theorem im_yX7_image : Cond.instanceMethod yX7_image ∈ TBL := tb_3 234 rfl rfl
set_option maxRecDepth 20000 in
theorem se_yX7_image : Cond.selects RX7 yX7_image yX7_image ∈ TBL := tb_3 235 rfl rfl
set_option maxRecDepth 20000 in
theorem cd_yX7_image : Cond.code yX7_image prog_1_method_33_code 1 (some FieldType.int) ∈ TBL := tb_3 236 rfl rfl
set_option maxRecDepth 20000 in
theorem ml_RL_149 : Cond.methodLink RL 149 yX7_back ∈ TBL := tb_3 237 rfl rfl
set_option maxRecDepth 20000 in
theorem im_yX7_back : Cond.instanceMethod yX7_back ∈ TBL := tb_3 238 rfl rfl
set_option maxRecDepth 20000 in
theorem se_yX7_back : Cond.selects RX7 yX7_back yX7_back ∈ TBL := tb_3 239 rfl rfl
set_option maxRecDepth 20000 in
theorem cd_yX7_back : Cond.code yX7_back prog_1_method_34_code 1 (some FieldType.int) ∈ TBL := tb_4 0 rfl rfl
set_option maxRecDepth 20000 in
theorem ml_RL_153 : Cond.methodLink RL 153 yX7_sheet ∈ TBL := tb_4 1 rfl rfl
set_option maxRecDepth 20000 in
theorem im_yX7_sheet : Cond.instanceMethod yX7_sheet ∈ TBL := tb_4 2 rfl rfl
set_option maxRecDepth 20000 in
theorem se_yX7_sheet : Cond.selects RX7 yX7_sheet yX7_sheet ∈ TBL := tb_4 3 rfl rfl
set_option maxRecDepth 20000 in
theorem cd_yX7_sheet : Cond.code yX7_sheet prog_1_method_35_code 4 (some FieldType.int) ∈ TBL := tb_4 4 rfl rfl
set_option maxRecDepth 20000 in
theorem ml_RL_157 : Cond.methodLink RL 157 yX7_cell ∈ TBL := tb_4 5 rfl rfl
set_option maxRecDepth 20000 in
theorem im_yX7_cell : Cond.instanceMethod yX7_cell ∈ TBL := tb_4 6 rfl rfl
set_option maxRecDepth 20000 in
theorem se_yX7_cell : Cond.selects RX7 yX7_cell yX7_cell ∈ TBL := tb_4 7 rfl rfl
set_option maxRecDepth 20000 in
theorem cd_yX7_cell : Cond.code yX7_cell prog_1_method_36_code 4 (some FieldType.int) ∈ TBL := tb_4 8 rfl rfl
set_option maxRecDepth 20000 in
theorem ml_RL_161 : Cond.methodLink RL 161 yX7_copy ∈ TBL := tb_4 9 rfl rfl
set_option maxRecDepth 20000 in
theorem im_yX7_copy : Cond.instanceMethod yX7_copy ∈ TBL := tb_4 10 rfl rfl
set_option maxRecDepth 20000 in
theorem se_yX7_copy : Cond.selects RX7 yX7_copy yX7_copy ∈ TBL := tb_4 11 rfl rfl
set_option maxRecDepth 20000 in
theorem cd_yX7_copy : Cond.code yX7_copy prog_1_method_37_code 8 (some FieldType.int) ∈ TBL := tb_4 12 rfl rfl
set_option maxRecDepth 20000 in
theorem ml_RX7_279 : Cond.methodLink RX7 279 (⟨"java/lang/System", "arraycopy", "(Ljava/lang/Object;ILjava/lang/Object;II)V"⟩ : MethodName) ∈ TBL := tb_4 13 rfl rfl
set_option maxRecDepth 20000 in
theorem ml_RL_166 : Cond.methodLink RL 166 yX7_guestsBy ∈ TBL := tb_4 14 rfl rfl
set_option maxRecDepth 20000 in
theorem im_yX7_guestsBy : Cond.instanceMethod yX7_guestsBy ∈ TBL := tb_4 15 rfl rfl
set_option maxRecDepth 20000 in
theorem se_yX7_guestsBy : Cond.selects RX7 yX7_guestsBy yX7_guestsBy ∈ TBL := tb_4 16 rfl rfl
set_option maxRecDepth 20000 in
theorem cd_yX7_guestsBy : Cond.code yX7_guestsBy prog_1_method_38_code 9 (some FieldType.int) ∈ TBL := tb_4 17 rfl rfl
set_option maxRecDepth 20000 in
theorem ml_RX7_285 : Cond.methodLink RX7 285 yX7_guest ∈ TBL := tb_4 18 rfl rfl
set_option maxRecDepth 20000 in
theorem ml_RL_170 : Cond.methodLink RL 170 yX7_taken ∈ TBL := tb_4 19 rfl rfl
set_option maxRecDepth 20000 in
theorem im_yX7_taken : Cond.instanceMethod yX7_taken ∈ TBL := tb_4 20 rfl rfl
set_option maxRecDepth 20000 in
theorem se_yX7_taken : Cond.selects RX7 yX7_taken yX7_taken ∈ TBL := tb_4 21 rfl rfl
set_option maxRecDepth 20000 in
theorem cd_yX7_taken : Cond.code yX7_taken prog_1_method_39_code 4 (some FieldType.int) ∈ TBL := tb_4 22 rfl rfl
set_option maxRecDepth 20000 in
theorem ml_RX7_289 : Cond.methodLink RX7 289 yX7_isOfKind ∈ TBL := tb_4 23 rfl rfl
set_option maxRecDepth 20000 in
theorem st_yX7_isOfKind : Cond.static yX7_isOfKind ∈ TBL := tb_4 24 rfl rfl
set_option maxRecDepth 20000 in
theorem cd_yX7_isOfKind : Cond.code yX7_isOfKind prog_1_method_45_code 4 (some FieldType.boolean) ∈ TBL := tb_4 25 rfl rfl
set_option maxRecDepth 20000 in
theorem fl_RX7_300 : Cond.fieldLink RX7 300 RX7 "KIND_ABOVE" "[I" ∈ TBL := tb_4 26 rfl rfl
set_option maxRecDepth 20000 in
theorem cl_RL_10 : Cond.classLink RL 10 RX8 ∈ TBL := tb_4 28 rfl rfl
set_option maxRecDepth 20000 in
theorem inst_RX8_31 : Cond.instantiable RX8 31 ∈ TBL := tb_4 29 rfl rfl
set_option maxRecDepth 20000 in
theorem ml_RL_12 : Cond.methodLink RL 12 yX8_init ∈ TBL := tb_4 30 rfl rfl
set_option maxRecDepth 20000 in
theorem im_yX8_init : Cond.instanceMethod yX8_init ∈ TBL := tb_4 31 rfl rfl
set_option maxRecDepth 20000 in
theorem cd_yX8_init : Cond.code yX8_init prog_10_method_1_code 2 none ∈ TBL := tb_4 32 rfl rfl
set_option maxRecDepth 20000 in
theorem ml_RX8_1 : Cond.methodLink RX8 1 (⟨"java/lang/Object", "<init>", "()V"⟩ : MethodName) ∈ TBL := tb_4 33 rfl rfl
set_option maxRecDepth 20000 in
theorem ml_RX8_65 : Cond.methodLink RX8 65 yX8_text ∈ TBL := tb_4 34 rfl rfl
set_option maxRecDepth 20000 in
theorem im_yX8_text : Cond.instanceMethod yX8_text ∈ TBL := tb_4 35 rfl rfl
set_option maxRecDepth 20000 in
theorem se_yX8_text : Cond.selects RX8 yX8_text yX8_text ∈ TBL := tb_4 36 rfl rfl
set_option maxRecDepth 20000 in
theorem cd_yX8_text : Cond.code yX8_text prog_10_method_21_code 3 (some FieldType.int) ∈ TBL := tb_4 37 rfl rfl
set_option maxRecDepth 20000 in
theorem ml_RX8_134 : Cond.methodLink RX8 134 yX8_next ∈ TBL := tb_4 38 rfl rfl
set_option maxRecDepth 20000 in
theorem im_yX8_next : Cond.instanceMethod yX8_next ∈ TBL := tb_4 40 rfl rfl
set_option maxRecDepth 20000 in
theorem cd_yX8_next : Cond.code yX8_next prog_10_method_12_code 3 none ∈ TBL := tb_4 41 rfl rfl
set_option maxRecDepth 20000 in
theorem ml_RX8_72 : Cond.methodLink RX8 72 yX8_in ∈ TBL := tb_4 42 rfl rfl
set_option maxRecDepth 20000 in
theorem st_yX8_in : Cond.static yX8_in ∈ TBL := tb_4 43 rfl rfl
set_option maxRecDepth 20000 in
theorem cd_yX8_in : Cond.code yX8_in prog_10_method_3_code 3 (some FieldType.boolean) ∈ TBL := tb_4 44 rfl rfl
set_option maxRecDepth 20000 in
theorem ml_RX8_108 : Cond.methodLink RX8 108 yX8_wordFrom ∈ TBL := tb_4 45 rfl rfl
set_option maxRecDepth 20000 in
theorem im_yX8_wordFrom : Cond.instanceMethod yX8_wordFrom ∈ TBL := tb_4 47 rfl rfl
set_option maxRecDepth 20000 in
theorem cd_yX8_wordFrom : Cond.code yX8_wordFrom prog_10_method_11_code 6 (some FieldType.int) ∈ TBL := tb_4 48 rfl rfl
set_option maxRecDepth 20000 in
theorem ml_RX8_147 : Cond.methodLink RX8 147 yX8_eRead ∈ TBL := tb_4 49 rfl rfl
set_option maxRecDepth 20000 in
theorem im_yX8_eRead : Cond.instanceMethod yX8_eRead ∈ TBL := tb_4 51 rfl rfl
set_option maxRecDepth 20000 in
theorem cd_yX8_eRead : Cond.code yX8_eRead prog_10_method_20_code 4 (some FieldType.boolean) ∈ TBL := tb_4 52 rfl rfl
set_option maxRecDepth 20000 in
theorem kc_RX8_137 : Cond.constant RX8 137 100000 ∈ TBL := tb_4 53 rfl rfl
set_option maxRecDepth 20000 in
theorem ml_RX8_124 : Cond.methodLink RX8 124 yX8_puts ∈ TBL := tb_4 54 rfl rfl
set_option maxRecDepth 20000 in
theorem im_yX8_puts : Cond.instanceMethod yX8_puts ∈ TBL := tb_4 56 rfl rfl
set_option maxRecDepth 20000 in
theorem cd_yX8_puts : Cond.code yX8_puts prog_10_method_14_code 2 none ∈ TBL := tb_4 57 rfl rfl
set_option maxRecDepth 20000 in
theorem ml_RX8_131 : Cond.methodLink RX8 131 yX8_unwinds ∈ TBL := tb_4 58 rfl rfl
set_option maxRecDepth 20000 in
theorem im_yX8_unwinds : Cond.instanceMethod yX8_unwinds ∈ TBL := tb_4 60 rfl rfl
set_option maxRecDepth 20000 in
theorem cd_yX8_unwinds : Cond.code yX8_unwinds prog_10_method_15_code 3 none ∈ TBL := tb_4 61 rfl rfl
set_option maxRecDepth 20000 in
theorem ml_RX8_118 : Cond.methodLink RX8 118 yX8_rank ∈ TBL := tb_4 62 rfl rfl
set_option maxRecDepth 20000 in
theorem st_yX8_rank : Cond.static yX8_rank ∈ TBL := tb_4 63 rfl rfl
set_option maxRecDepth 20000 in
theorem cd_yX8_rank : Cond.code yX8_rank prog_10_method_13_code 1 (some FieldType.int) ∈ TBL := tb_4 64 rfl rfl
set_option maxRecDepth 20000 in
theorem ml_RX8_138 : Cond.methodLink RX8 138 yX8_opensOne ∈ TBL := tb_4 65 rfl rfl
set_option maxRecDepth 20000 in
theorem im_yX8_opensOne : Cond.instanceMethod yX8_opensOne ∈ TBL := tb_4 67 rfl rfl
set_option maxRecDepth 20000 in
theorem cd_yX8_opensOne : Cond.code yX8_opensOne prog_10_method_17_code 2 (some FieldType.boolean) ∈ TBL := tb_4 68 rfl rfl
set_option maxRecDepth 20000 in
theorem ml_RX8_128 : Cond.methodLink RX8 128 yX8_holds ∈ TBL := tb_4 69 rfl rfl
set_option maxRecDepth 20000 in
theorem im_yX8_holds : Cond.instanceMethod yX8_holds ∈ TBL := tb_4 71 rfl rfl
set_option maxRecDepth 20000 in
theorem cd_yX8_holds : Cond.code yX8_holds prog_10_method_16_code 2 none ∈ TBL := tb_4 72 rfl rfl
set_option maxRecDepth 20000 in
theorem ml_RX8_141 : Cond.methodLink RX8 141 yX8_signOf ∈ TBL := tb_4 73 rfl rfl
set_option maxRecDepth 20000 in
theorem im_yX8_signOf : Cond.instanceMethod yX8_signOf ∈ TBL := tb_4 75 rfl rfl
set_option maxRecDepth 20000 in
theorem cd_yX8_signOf : Cond.code yX8_signOf prog_10_method_19_code 1 (some FieldType.int) ∈ TBL := tb_4 76 rfl rfl
set_option maxRecDepth 20000 in
theorem ml_RX8_144 : Cond.methodLink RX8 144 yX8_between ∈ TBL := tb_4 77 rfl rfl
set_option maxRecDepth 20000 in
theorem im_yX8_between : Cond.instanceMethod yX8_between ∈ TBL := tb_4 79 rfl rfl
set_option maxRecDepth 20000 in
theorem cd_yX8_between : Cond.code yX8_between prog_10_method_18_code 2 (some FieldType.boolean) ∈ TBL := tb_4 80 rfl rfl
set_option maxRecDepth 20000 in
theorem fl_RX8_69 : Cond.fieldLink RX8 69 RX8 "guests" "I" ∈ TBL := tb_4 81 rfl rfl
set_option maxRecDepth 20000 in
theorem fl_RX8_7 : Cond.fieldLink RX8 7 RX8 "kind" "[I" ∈ TBL := tb_4 82 rfl rfl
set_option maxRecDepth 20000 in
theorem fl_RX8_13 : Cond.fieldLink RX8 13 RX8 "moreOf" "[I" ∈ TBL := tb_4 83 rfl rfl
set_option maxRecDepth 20000 in
theorem fl_RX8_16 : Cond.fieldLink RX8 16 RX8 "rows" "[I" ∈ TBL := tb_4 84 rfl rfl
set_option maxRecDepth 20000 in
theorem fl_RX8_76 : Cond.fieldLink RX8 76 RX8 "minutes" "I" ∈ TBL := tb_4 85 rfl rfl
set_option maxRecDepth 20000 in
theorem fl_RX8_19 : Cond.fieldLink RX8 19 RX8 "tape" "[I" ∈ TBL := tb_4 86 rfl rfl
set_option maxRecDepth 20000 in
theorem fl_RX8_61 : Cond.fieldLink RX8 61 RX8 "taped" "I" ∈ TBL := tb_4 87 rfl rfl
set_option maxRecDepth 20000 in
theorem fl_RX8_22 : Cond.fieldLink RX8 22 RX8 "codes" "[I" ∈ TBL := tb_4 88 rfl rfl
set_option maxRecDepth 20000 in
theorem fl_RX8_25 : Cond.fieldLink RX8 25 RX8 "starts" "[I" ∈ TBL := tb_4 89 rfl rfl
set_option maxRecDepth 20000 in
theorem fl_RX8_86 : Cond.fieldLink RX8 86 RX8 "texts" "I" ∈ TBL := tb_4 90 rfl rfl
set_option maxRecDepth 20000 in
theorem fl_RX8_89 : Cond.fieldLink RX8 89 RX8 "rule" "I" ∈ TBL := tb_4 91 rfl rfl
set_option maxRecDepth 20000 in
theorem fl_RX8_237 : Cond.fieldLink RX8 237 RX8 "hasImage" "Z" ∈ TBL := tb_4 92 rfl rfl
set_option maxRecDepth 20000 in
theorem fl_RX8_28 : Cond.fieldLink RX8 28 RX8 "imageRows" "[I" ∈ TBL := tb_4 93 rfl rfl
set_option maxRecDepth 20000 in
theorem fl_RX8_31 : Cond.fieldLink RX8 31 RX8 "imageHeld" "[I" ∈ TBL := tb_4 94 rfl rfl
set_option maxRecDepth 20000 in
theorem fl_RX8_34 : Cond.fieldLink RX8 34 RX8 "sheetSort" "[I" ∈ TBL := tb_4 95 rfl rfl
set_option maxRecDepth 20000 in
theorem fl_RX8_37 : Cond.fieldLink RX8 37 RX8 "sheetSize" "[I" ∈ TBL := tb_4 96 rfl rfl
set_option maxRecDepth 20000 in
theorem fl_RX8_40 : Cond.fieldLink RX8 40 RX8 "cells" "[I" ∈ TBL := tb_4 97 rfl rfl
set_option maxRecDepth 20000 in
theorem fl_RX8_43 : Cond.fieldLink RX8 43 RX8 "law" "[I" ∈ TBL := tb_4 98 rfl rfl
set_option maxRecDepth 20000 in
theorem fl_RX8_96 : Cond.fieldLink RX8 96 RX8 "at" "I" ∈ TBL := tb_4 99 rfl rfl
set_option maxRecDepth 20000 in
theorem fl_RX8_99 : Cond.fieldLink RX8 99 RX8 "begun" "I" ∈ TBL := tb_4 100 rfl rfl
set_option maxRecDepth 20000 in
theorem fl_RX8_102 : Cond.fieldLink RX8 102 RX8 "token" "I" ∈ TBL := tb_4 101 rfl rfl
set_option maxRecDepth 20000 in
theorem fl_RX8_105 : Cond.fieldLink RX8 105 RX8 "value" "I" ∈ TBL := tb_4 102 rfl rfl
set_option maxRecDepth 20000 in
theorem fl_RX8_46 : Cond.fieldLink RX8 46 RX8 "words" "[I" ∈ TBL := tb_4 103 rfl rfl
set_option maxRecDepth 20000 in
theorem fl_RX8_49 : Cond.fieldLink RX8 49 RX8 "held" "[I" ∈ TBL := tb_4 104 rfl rfl
set_option maxRecDepth 20000 in
theorem fl_RX8_115 : Cond.fieldLink RX8 115 RX8 "heldMany" "I" ∈ TBL := tb_4 105 rfl rfl
set_option maxRecDepth 20000 in
theorem fl_RX8_121 : Cond.fieldLink RX8 121 RX8 "opens" "I" ∈ TBL := tb_4 106 rfl rfl
set_option maxRecDepth 20000 in
theorem fl_RX8_112 : Cond.fieldLink RX8 112 RX8 "out" "I" ∈ TBL := tb_4 107 rfl rfl
set_option maxRecDepth 20000 in
theorem fl_RX8_52 : Cond.fieldLink RX8 52 RX8 "stack" "[I" ∈ TBL := tb_4 108 rfl rfl
set_option maxRecDepth 20000 in
theorem fl_RX8_55 : Cond.fieldLink RX8 55 RX8 "named" "[I" ∈ TBL := tb_4 109 rfl rfl
set_option maxRecDepth 20000 in
theorem fl_RX8_58 : Cond.fieldLink RX8 58 RX8 "kept" "[I" ∈ TBL := tb_4 110 rfl rfl
set_option maxRecDepth 20000 in
theorem fl_RX8_230 : Cond.fieldLink RX8 230 RX8 "stuckThen" "I" ∈ TBL := tb_4 111 rfl rfl
set_option maxRecDepth 20000 in
theorem ml_RL_17 : Cond.methodLink RL 17 yX8_count ∈ TBL := tb_4 175 rfl rfl
set_option maxRecDepth 20000 in
theorem im_yX8_count : Cond.instanceMethod yX8_count ∈ TBL := tb_4 176 rfl rfl
set_option maxRecDepth 20000 in
theorem se_yX8_count : Cond.selects RX8 yX8_count yX8_count ∈ TBL := tb_4 177 rfl rfl
set_option maxRecDepth 20000 in
theorem cd_yX8_count : Cond.code yX8_count prog_10_method_7_code 2 (some FieldType.int) ∈ TBL := tb_4 178 rfl rfl
set_option maxRecDepth 20000 in
theorem ml_RX8_79 : Cond.methodLink RX8 79 yX8_stuckSet ∈ TBL := tb_4 179 rfl rfl
set_option maxRecDepth 20000 in
theorem im_yX8_stuckSet : Cond.instanceMethod yX8_stuckSet ∈ TBL := tb_4 181 rfl rfl
set_option maxRecDepth 20000 in
theorem cd_yX8_stuckSet : Cond.code yX8_stuckSet prog_10_method_34_code 3 (some FieldType.int) ∈ TBL := tb_4 182 rfl rfl
set_option maxRecDepth 20000 in
theorem ml_RX8_173 : Cond.methodLink RX8 173 yX8_isStuck ∈ TBL := tb_4 183 rfl rfl
set_option maxRecDepth 20000 in
theorem im_yX8_isStuck : Cond.instanceMethod yX8_isStuck ∈ TBL := tb_4 185 rfl rfl
set_option maxRecDepth 20000 in
theorem cd_yX8_isStuck : Cond.code yX8_isStuck prog_10_method_33_code 2 (some FieldType.boolean) ∈ TBL := tb_4 186 rfl rfl
set_option maxRecDepth 20000 in
theorem ml_RX8_170 : Cond.methodLink RX8 170 yX8_actOf ∈ TBL := tb_4 187 rfl rfl
set_option maxRecDepth 20000 in
theorem im_yX8_actOf : Cond.instanceMethod yX8_actOf ∈ TBL := tb_4 189 rfl rfl
set_option maxRecDepth 20000 in
theorem cd_yX8_actOf : Cond.code yX8_actOf prog_10_method_32_code 4 (some FieldType.int) ∈ TBL := tb_4 190 rfl rfl
set_option maxRecDepth 20000 in
theorem ml_RX8_167 : Cond.methodLink RX8 167 yX8_mindSet ∈ TBL := tb_4 191 rfl rfl
set_option maxRecDepth 20000 in
theorem im_yX8_mindSet : Cond.instanceMethod yX8_mindSet ∈ TBL := tb_4 193 rfl rfl
set_option maxRecDepth 20000 in
theorem cd_yX8_mindSet : Cond.code yX8_mindSet prog_10_method_29_code 7 (some FieldType.int) ∈ TBL := tb_4 194 rfl rfl
set_option maxRecDepth 20000 in
theorem ml_RX8_164 : Cond.methodLink RX8 164 yX8_asksOf ∈ TBL := tb_4 195 rfl rfl
set_option maxRecDepth 20000 in
theorem im_yX8_asksOf : Cond.instanceMethod yX8_asksOf ∈ TBL := tb_4 197 rfl rfl
set_option maxRecDepth 20000 in
theorem cd_yX8_asksOf : Cond.code yX8_asksOf prog_10_method_25_code 3 (some FieldType.int) ∈ TBL := tb_4 198 rfl rfl
set_option maxRecDepth 20000 in
theorem ml_RX8_82 : Cond.methodLink RX8 82 yX8_onesOf ∈ TBL := tb_4 199 rfl rfl
set_option maxRecDepth 20000 in
theorem st_yX8_onesOf : Cond.static yX8_onesOf ∈ TBL := tb_4 200 rfl rfl
set_option maxRecDepth 20000 in
theorem cd_yX8_onesOf : Cond.code yX8_onesOf prog_10_method_5_code 3 (some FieldType.int) ∈ TBL := tb_4 201 rfl rfl
set_option maxRecDepth 20000 in
theorem ml_RX8_155 : Cond.methodLink RX8 155 yX8_says ∈ TBL := tb_4 202 rfl rfl
set_option maxRecDepth 20000 in
theorem im_yX8_says : Cond.instanceMethod yX8_says ∈ TBL := tb_4 204 rfl rfl
set_option maxRecDepth 20000 in
theorem cd_yX8_says : Cond.code yX8_says prog_10_method_23_code 5 (some FieldType.int) ∈ TBL := tb_4 205 rfl rfl
set_option maxRecDepth 20000 in
theorem ml_RX8_151 : Cond.methodLink RX8 151 yX8_two ∈ TBL := tb_4 206 rfl rfl
set_option maxRecDepth 20000 in
theorem st_yX8_two : Cond.static yX8_two ∈ TBL := tb_4 207 rfl rfl
set_option maxRecDepth 20000 in
theorem cd_yX8_two : Cond.code yX8_two prog_10_method_22_code 3 (some FieldType.int) ∈ TBL := tb_4 208 rfl rfl
set_option maxRecDepth 20000 in
theorem ml_RX8_158 : Cond.methodLink RX8 158 yX8_within ∈ TBL := tb_4 209 rfl rfl
set_option maxRecDepth 20000 in
theorem st_yX8_within : Cond.static yX8_within ∈ TBL := tb_4 210 rfl rfl
set_option maxRecDepth 20000 in
theorem cd_yX8_within : Cond.code yX8_within prog_10_method_4_code 3 (some FieldType.int) ∈ TBL := tb_4 211 rfl rfl
set_option maxRecDepth 20000 in
theorem ml_RL_21 : Cond.methodLink RL 21 yX8_clock ∈ TBL := tb_4 212 rfl rfl
set_option maxRecDepth 20000 in
theorem im_yX8_clock : Cond.instanceMethod yX8_clock ∈ TBL := tb_4 213 rfl rfl
set_option maxRecDepth 20000 in
theorem se_yX8_clock : Cond.selects RX8 yX8_clock yX8_clock ∈ TBL := tb_4 214 rfl rfl
set_option maxRecDepth 20000 in
theorem cd_yX8_clock : Cond.code yX8_clock prog_10_method_8_code 3 (some FieldType.int) ∈ TBL := tb_4 215 rfl rfl
set_option maxRecDepth 20000 in
theorem ml_RL_26 : Cond.methodLink RL 26 yX8_feed ∈ TBL := tb_4 216 rfl rfl
set_option maxRecDepth 20000 in
theorem im_yX8_feed : Cond.instanceMethod yX8_feed ∈ TBL := tb_4 217 rfl rfl
set_option maxRecDepth 20000 in
theorem se_yX8_feed : Cond.selects RX8 yX8_feed yX8_feed ∈ TBL := tb_4 218 rfl rfl
set_option maxRecDepth 20000 in
theorem cd_yX8_feed : Cond.code yX8_feed prog_10_method_10_code 8 (some FieldType.int) ∈ TBL := tb_4 219 rfl rfl
set_option maxRecDepth 20000 in
theorem ml_RX8_92 : Cond.methodLink RX8 92 yX8_isByte ∈ TBL := tb_4 220 rfl rfl
set_option maxRecDepth 20000 in
theorem st_yX8_isByte : Cond.static yX8_isByte ∈ TBL := tb_4 221 rfl rfl
set_option maxRecDepth 20000 in
theorem cd_yX8_isByte : Cond.code yX8_isByte prog_10_method_9_code 1 (some FieldType.boolean) ∈ TBL := tb_4 222 rfl rfl
set_option maxRecDepth 20000 in
theorem ml_RL_31 : Cond.methodLink RL 31 yX8_text ∈ TBL := tb_4 223 rfl rfl
set_option maxRecDepth 20000 in
theorem ml_RL_35 : Cond.methodLink RL 35 yX8_force ∈ TBL := tb_4 224 rfl rfl
set_option maxRecDepth 20000 in
theorem im_yX8_force : Cond.instanceMethod yX8_force ∈ TBL := tb_4 225 rfl rfl
set_option maxRecDepth 20000 in
theorem se_yX8_force : Cond.selects RX8 yX8_force yX8_force ∈ TBL := tb_4 226 rfl rfl
set_option maxRecDepth 20000 in
theorem cd_yX8_force : Cond.code yX8_force prog_10_method_24_code 3 (some FieldType.int) ∈ TBL := tb_4 227 rfl rfl
set_option maxRecDepth 20000 in
theorem ml_RL_40 : Cond.methodLink RL 40 yX8_asks ∈ TBL := tb_4 228 rfl rfl
set_option maxRecDepth 20000 in
theorem im_yX8_asks : Cond.instanceMethod yX8_asks ∈ TBL := tb_4 229 rfl rfl
set_option maxRecDepth 20000 in
theorem se_yX8_asks : Cond.selects RX8 yX8_asks yX8_asks ∈ TBL := tb_4 230 rfl rfl
set_option maxRecDepth 20000 in
theorem cd_yX8_asks : Cond.code yX8_asks prog_10_method_26_code 3 (some FieldType.int) ∈ TBL := tb_4 231 rfl rfl
set_option maxRecDepth 20000 in
theorem ml_RX8_161 : Cond.methodLink RX8 161 yX8_isOne ∈ TBL := tb_4 232 rfl rfl
set_option maxRecDepth 20000 in
theorem im_yX8_isOne : Cond.instanceMethod yX8_isOne ∈ TBL := tb_4 234 rfl rfl
set_option maxRecDepth 20000 in
theorem cd_yX8_isOne : Cond.code yX8_isOne prog_10_method_6_code 2 (some FieldType.boolean) ∈ TBL := tb_4 235 rfl rfl
set_option maxRecDepth 20000 in
theorem ml_RL_45 : Cond.methodLink RL 45 yX8_guest ∈ TBL := tb_4 236 rfl rfl
set_option maxRecDepth 20000 in
theorem im_yX8_guest : Cond.instanceMethod yX8_guest ∈ TBL := tb_4 237 rfl rfl
set_option maxRecDepth 20000 in
theorem se_yX8_guest : Cond.selects RX8 yX8_guest yX8_guest ∈ TBL := tb_4 238 rfl rfl
set_option maxRecDepth 20000 in
theorem cd_yX8_guest : Cond.code yX8_guest prog_10_method_27_code 4 (some FieldType.int) ∈ TBL := tb_4 239 rfl rfl
set_option maxRecDepth 20000 in
theorem ml_RL_49 : Cond.methodLink RL 49 yX8_put ∈ TBL := tb_5 0 rfl rfl
set_option maxRecDepth 20000 in
theorem im_yX8_put : Cond.instanceMethod yX8_put ∈ TBL := tb_5 1 rfl rfl
set_option maxRecDepth 20000 in
theorem se_yX8_put : Cond.selects RX8 yX8_put yX8_put ∈ TBL := tb_5 2 rfl rfl
set_option maxRecDepth 20000 in
theorem cd_yX8_put : Cond.code yX8_put prog_10_method_28_code 6 (some FieldType.int) ∈ TBL := tb_5 3 rfl rfl
set_option maxRecDepth 20000 in
theorem ml_RL_53 : Cond.methodLink RL 53 yX8_told ∈ TBL := tb_5 4 rfl rfl
set_option maxRecDepth 20000 in
theorem im_yX8_told : Cond.instanceMethod yX8_told ∈ TBL := tb_5 5 rfl rfl
set_option maxRecDepth 20000 in
theorem se_yX8_told : Cond.selects RX8 yX8_told yX8_told ∈ TBL := tb_5 6 rfl rfl
set_option maxRecDepth 20000 in
theorem cd_yX8_told : Cond.code yX8_told prog_10_method_35_code 3 (some FieldType.int) ∈ TBL := tb_5 7 rfl rfl
set_option maxRecDepth 20000 in
theorem ml_RX8_176 : Cond.methodLink RX8 176 yX8_tellsOf ∈ TBL := tb_5 8 rfl rfl
set_option maxRecDepth 20000 in
theorem im_yX8_tellsOf : Cond.instanceMethod yX8_tellsOf ∈ TBL := tb_5 10 rfl rfl
set_option maxRecDepth 20000 in
theorem cd_yX8_tellsOf : Cond.code yX8_tellsOf prog_10_method_31_code 5 (some FieldType.int) ∈ TBL := tb_5 11 rfl rfl
set_option maxRecDepth 20000 in
theorem ml_RL_57 : Cond.methodLink RL 57 yX8_manners ∈ TBL := tb_5 12 rfl rfl
set_option maxRecDepth 20000 in
theorem im_yX8_manners : Cond.instanceMethod yX8_manners ∈ TBL := tb_5 13 rfl rfl
set_option maxRecDepth 20000 in
theorem se_yX8_manners : Cond.selects RX8 yX8_manners yX8_manners ∈ TBL := tb_5 14 rfl rfl
set_option maxRecDepth 20000 in
theorem cd_yX8_manners : Cond.code yX8_manners prog_10_method_36_code 4 (some FieldType.int) ∈ TBL := tb_5 15 rfl rfl
set_option maxRecDepth 20000 in
theorem ml_RX8_179 : Cond.methodLink RX8 179 yX8_eatsOf ∈ TBL := tb_5 16 rfl rfl
set_option maxRecDepth 20000 in
theorem im_yX8_eatsOf : Cond.instanceMethod yX8_eatsOf ∈ TBL := tb_5 18 rfl rfl
set_option maxRecDepth 20000 in
theorem cd_yX8_eatsOf : Cond.code yX8_eatsOf prog_10_method_30_code 4 (some FieldType.int) ∈ TBL := tb_5 19 rfl rfl
set_option maxRecDepth 20000 in
theorem ml_RL_61 : Cond.methodLink RL 61 yX8_dinner ∈ TBL := tb_5 20 rfl rfl
set_option maxRecDepth 20000 in
theorem im_yX8_dinner : Cond.instanceMethod yX8_dinner ∈ TBL := tb_5 21 rfl rfl
set_option maxRecDepth 20000 in
theorem se_yX8_dinner : Cond.selects RX8 yX8_dinner yX8_dinner ∈ TBL := tb_5 22 rfl rfl
set_option maxRecDepth 20000 in
theorem cd_yX8_dinner : Cond.code yX8_dinner prog_10_method_38_code 7 (some FieldType.int) ∈ TBL := tb_5 23 rfl rfl
set_option maxRecDepth 20000 in
theorem ml_RX8_182 : Cond.methodLink RX8 182 yX8_ateAll ∈ TBL := tb_5 24 rfl rfl
set_option maxRecDepth 20000 in
theorem im_yX8_ateAll : Cond.instanceMethod yX8_ateAll ∈ TBL := tb_5 26 rfl rfl
set_option maxRecDepth 20000 in
theorem cd_yX8_ateAll : Cond.code yX8_ateAll prog_10_method_37_code 3 (some FieldType.int) ∈ TBL := tb_5 27 rfl rfl
set_option maxRecDepth 20000 in
theorem ml_RL_65 : Cond.methodLink RL 65 yX8_minute ∈ TBL := tb_5 28 rfl rfl
set_option maxRecDepth 20000 in
theorem im_yX8_minute : Cond.instanceMethod yX8_minute ∈ TBL := tb_5 29 rfl rfl
set_option maxRecDepth 20000 in
theorem se_yX8_minute : Cond.selects RX8 yX8_minute yX8_minute ∈ TBL := tb_5 30 rfl rfl
set_option maxRecDepth 20000 in
theorem cd_yX8_minute : Cond.code yX8_minute prog_10_method_41_code 1 (some FieldType.int) ∈ TBL := tb_5 31 rfl rfl
set_option maxRecDepth 20000 in
theorem ml_RX8_188 : Cond.methodLink RX8 188 yX8_minuteOf ∈ TBL := tb_5 32 rfl rfl
set_option maxRecDepth 20000 in
theorem im_yX8_minuteOf : Cond.instanceMethod yX8_minuteOf ∈ TBL := tb_5 34 rfl rfl
set_option maxRecDepth 20000 in
theorem cd_yX8_minuteOf : Cond.code yX8_minuteOf prog_10_method_40_code 3 (some FieldType.int) ∈ TBL := tb_5 35 rfl rfl
set_option maxRecDepth 20000 in
theorem ml_RX8_185 : Cond.methodLink RX8 185 yX8_doesAct ∈ TBL := tb_5 36 rfl rfl
set_option maxRecDepth 20000 in
theorem im_yX8_doesAct : Cond.instanceMethod yX8_doesAct ∈ TBL := tb_5 38 rfl rfl
set_option maxRecDepth 20000 in
theorem cd_yX8_doesAct : Cond.code yX8_doesAct prog_10_method_39_code 5 (some FieldType.int) ∈ TBL := tb_5 39 rfl rfl
set_option maxRecDepth 20000 in
theorem ml_RL_69 : Cond.methodLink RL 69 yX8_act ∈ TBL := tb_5 40 rfl rfl
set_option maxRecDepth 20000 in
theorem im_yX8_act : Cond.instanceMethod yX8_act ∈ TBL := tb_5 41 rfl rfl
set_option maxRecDepth 20000 in
theorem se_yX8_act : Cond.selects RX8 yX8_act yX8_act ∈ TBL := tb_5 42 rfl rfl
set_option maxRecDepth 20000 in
theorem cd_yX8_act : Cond.code yX8_act prog_10_method_42_code 3 (some FieldType.int) ∈ TBL := tb_5 43 rfl rfl
set_option maxRecDepth 20000 in
theorem ml_RL_73 : Cond.methodLink RL 73 yX8_swap ∈ TBL := tb_5 44 rfl rfl
set_option maxRecDepth 20000 in
theorem im_yX8_swap : Cond.instanceMethod yX8_swap ∈ TBL := tb_5 45 rfl rfl
set_option maxRecDepth 20000 in
theorem se_yX8_swap : Cond.selects RX8 yX8_swap yX8_swap ∈ TBL := tb_5 46 rfl rfl
set_option maxRecDepth 20000 in
theorem cd_yX8_swap : Cond.code yX8_swap prog_10_method_44_code 3 (some FieldType.int) ∈ TBL := tb_5 47 rfl rfl
set_option maxRecDepth 20000 in
theorem ml_RX8_191 : Cond.methodLink RX8 191 yX8_changes ∈ TBL := tb_5 48 rfl rfl
set_option maxRecDepth 20000 in
theorem im_yX8_changes : Cond.instanceMethod yX8_changes ∈ TBL := tb_5 50 rfl rfl
set_option maxRecDepth 20000 in
theorem cd_yX8_changes : Cond.code yX8_changes prog_10_method_43_code 4 none ∈ TBL := tb_5 51 rfl rfl
set_option maxRecDepth 20000 in
theorem ml_RL_77 : Cond.methodLink RL 77 yX8_run ∈ TBL := tb_5 52 rfl rfl
set_option maxRecDepth 20000 in
theorem im_yX8_run : Cond.instanceMethod yX8_run ∈ TBL := tb_5 53 rfl rfl
set_option maxRecDepth 20000 in
theorem se_yX8_run : Cond.selects RX8 yX8_run yX8_run ∈ TBL := tb_5 54 rfl rfl
set_option maxRecDepth 20000 in
theorem cd_yX8_run : Cond.code yX8_run prog_10_method_48_code 5 (some FieldType.int) ∈ TBL := tb_5 55 rfl rfl
set_option maxRecDepth 20000 in
theorem ml_RX8_195 : Cond.methodLink RX8 195 yX8_keeps ∈ TBL := tb_5 56 rfl rfl
set_option maxRecDepth 20000 in
theorem im_yX8_keeps : Cond.instanceMethod yX8_keeps ∈ TBL := tb_5 58 rfl rfl
set_option maxRecDepth 20000 in
theorem cd_yX8_keeps : Cond.code yX8_keeps prog_10_method_45_code 2 none ∈ TBL := tb_5 59 rfl rfl
set_option maxRecDepth 20000 in
theorem ml_RX8_198 : Cond.methodLink RX8 198 yX8_passes ∈ TBL := tb_5 60 rfl rfl
set_option maxRecDepth 20000 in
theorem im_yX8_passes : Cond.instanceMethod yX8_passes ∈ TBL := tb_5 62 rfl rfl
set_option maxRecDepth 20000 in
theorem cd_yX8_passes : Cond.code yX8_passes prog_10_method_47_code 4 (some FieldType.int) ∈ TBL := tb_5 63 rfl rfl
set_option maxRecDepth 20000 in
theorem ml_RX8_201 : Cond.methodLink RX8 201 yX8_lays ∈ TBL := tb_5 64 rfl rfl
set_option maxRecDepth 20000 in
theorem im_yX8_lays : Cond.instanceMethod yX8_lays ∈ TBL := tb_5 66 rfl rfl
set_option maxRecDepth 20000 in
theorem cd_yX8_lays : Cond.code yX8_lays prog_10_method_46_code 2 none ∈ TBL := tb_5 67 rfl rfl
set_option maxRecDepth 20000 in
theorem ml_RL_81 : Cond.methodLink RL 81 yX8_when ∈ TBL := tb_5 68 rfl rfl
set_option maxRecDepth 20000 in
theorem im_yX8_when : Cond.instanceMethod yX8_when ∈ TBL := tb_5 69 rfl rfl
set_option maxRecDepth 20000 in
theorem se_yX8_when : Cond.selects RX8 yX8_when yX8_when ∈ TBL := tb_5 70 rfl rfl
set_option maxRecDepth 20000 in
theorem cd_yX8_when : Cond.code yX8_when prog_10_method_49_code 6 (some FieldType.int) ∈ TBL := tb_5 71 rfl rfl
set_option maxRecDepth 20000 in
theorem ml_RL_85 : Cond.methodLink RL 85 yX8_poker ∈ TBL := tb_5 72 rfl rfl
set_option maxRecDepth 20000 in
theorem im_yX8_poker : Cond.instanceMethod yX8_poker ∈ TBL := tb_5 73 rfl rfl
set_option maxRecDepth 20000 in
theorem se_yX8_poker : Cond.selects RX8 yX8_poker yX8_poker ∈ TBL := tb_5 74 rfl rfl
set_option maxRecDepth 20000 in
theorem cd_yX8_poker : Cond.code yX8_poker prog_10_method_51_code 7 (some FieldType.int) ∈ TBL := tb_5 75 rfl rfl
set_option maxRecDepth 20000 in
theorem ml_RX8_204 : Cond.methodLink RX8 204 yX8_stuckBehind ∈ TBL := tb_5 76 rfl rfl
set_option maxRecDepth 20000 in
theorem im_yX8_stuckBehind : Cond.instanceMethod yX8_stuckBehind ∈ TBL := tb_5 78 rfl rfl
set_option maxRecDepth 20000 in
theorem cd_yX8_stuckBehind : Cond.code yX8_stuckBehind prog_10_method_50_code 3 (some FieldType.int) ∈ TBL := tb_5 79 rfl rfl
set_option maxRecDepth 20000 in
theorem ml_RL_89 : Cond.methodLink RL 89 yX8_forgive ∈ TBL := tb_5 80 rfl rfl
set_option maxRecDepth 20000 in
theorem im_yX8_forgive : Cond.instanceMethod yX8_forgive ∈ TBL := tb_5 81 rfl rfl
set_option maxRecDepth 20000 in
theorem se_yX8_forgive : Cond.selects RX8 yX8_forgive yX8_forgive ∈ TBL := tb_5 82 rfl rfl
set_option maxRecDepth 20000 in
theorem cd_yX8_forgive : Cond.code yX8_forgive prog_10_method_52_code 8 (some FieldType.int) ∈ TBL := tb_5 83 rfl rfl
set_option maxRecDepth 20000 in
theorem ml_RL_93 : Cond.methodLink RL 93 yX8_alarm ∈ TBL := tb_5 84 rfl rfl
set_option maxRecDepth 20000 in
theorem im_yX8_alarm : Cond.instanceMethod yX8_alarm ∈ TBL := tb_5 85 rfl rfl
set_option maxRecDepth 20000 in
theorem se_yX8_alarm : Cond.selects RX8 yX8_alarm yX8_alarm ∈ TBL := tb_5 86 rfl rfl
set_option maxRecDepth 20000 in
theorem cd_yX8_alarm : Cond.code yX8_alarm prog_10_method_54_code 7 (some FieldType.int) ∈ TBL := tb_5 87 rfl rfl
set_option maxRecDepth 20000 in
theorem ml_RX8_207 : Cond.methodLink RX8 207 yX8_ateBehind ∈ TBL := tb_5 88 rfl rfl
set_option maxRecDepth 20000 in
theorem im_yX8_ateBehind : Cond.instanceMethod yX8_ateBehind ∈ TBL := tb_5 90 rfl rfl
set_option maxRecDepth 20000 in
theorem cd_yX8_ateBehind : Cond.code yX8_ateBehind prog_10_method_53_code 3 (some FieldType.int) ∈ TBL := tb_5 91 rfl rfl
set_option maxRecDepth 20000 in
theorem ml_RL_97 : Cond.methodLink RL 97 yX8_change ∈ TBL := tb_5 92 rfl rfl
set_option maxRecDepth 20000 in
theorem im_yX8_change : Cond.instanceMethod yX8_change ∈ TBL := tb_5 93 rfl rfl
set_option maxRecDepth 20000 in
theorem se_yX8_change : Cond.selects RX8 yX8_change yX8_change ∈ TBL := tb_5 94 rfl rfl
set_option maxRecDepth 20000 in
theorem cd_yX8_change : Cond.code yX8_change prog_10_method_55_code 8 (some FieldType.int) ∈ TBL := tb_5 95 rfl rfl
set_option maxRecDepth 20000 in
theorem ml_RL_101 : Cond.methodLink RL 101 yX8_bold ∈ TBL := tb_5 96 rfl rfl
set_option maxRecDepth 20000 in
theorem im_yX8_bold : Cond.instanceMethod yX8_bold ∈ TBL := tb_5 97 rfl rfl
set_option maxRecDepth 20000 in
theorem se_yX8_bold : Cond.selects RX8 yX8_bold yX8_bold ∈ TBL := tb_5 98 rfl rfl
set_option maxRecDepth 20000 in
theorem cd_yX8_bold : Cond.code yX8_bold prog_10_method_56_code 5 (some FieldType.int) ∈ TBL := tb_5 99 rfl rfl
set_option maxRecDepth 20000 in
theorem ml_RL_106 : Cond.methodLink RL 106 yX8_mean ∈ TBL := tb_5 100 rfl rfl
set_option maxRecDepth 20000 in
theorem im_yX8_mean : Cond.instanceMethod yX8_mean ∈ TBL := tb_5 101 rfl rfl
set_option maxRecDepth 20000 in
theorem se_yX8_mean : Cond.selects RX8 yX8_mean yX8_mean ∈ TBL := tb_5 102 rfl rfl
set_option maxRecDepth 20000 in
theorem cd_yX8_mean : Cond.code yX8_mean prog_10_method_58_code 4 (some FieldType.long) ∈ TBL := tb_5 103 rfl rfl
set_option maxRecDepth 20000 in
theorem ml_RX8_210 : Cond.methodLink RX8 210 yX8_lowest ∈ TBL := tb_5 104 rfl rfl
set_option maxRecDepth 20000 in
theorem st_yX8_lowest : Cond.static yX8_lowest ∈ TBL := tb_5 105 rfl rfl
set_option maxRecDepth 20000 in
theorem cd_yX8_lowest : Cond.code yX8_lowest prog_10_method_57_code 11 (some FieldType.long) ∈ TBL := tb_5 106 rfl rfl
set_option maxRecDepth 20000 in
theorem kl_RX8_214 : Cond.constantLong RX8 214 (-4611686018427387904) ∈ TBL := tb_5 107 rfl rfl
set_option maxRecDepth 20000 in
theorem ml_RL_110 : Cond.methodLink RL 110 yX8_judge ∈ TBL := tb_5 108 rfl rfl
set_option maxRecDepth 20000 in
theorem im_yX8_judge : Cond.instanceMethod yX8_judge ∈ TBL := tb_5 109 rfl rfl
set_option maxRecDepth 20000 in
theorem se_yX8_judge : Cond.selects RX8 yX8_judge yX8_judge ∈ TBL := tb_5 110 rfl rfl
set_option maxRecDepth 20000 in
theorem cd_yX8_judge : Cond.code yX8_judge prog_10_method_61_code 3 (some FieldType.int) ∈ TBL := tb_5 111 rfl rfl
set_option maxRecDepth 20000 in
theorem ml_RX8_216 : Cond.methodLink RX8 216 yX8_sheetWrong ∈ TBL := tb_5 112 rfl rfl
set_option maxRecDepth 20000 in
theorem im_yX8_sheetWrong : Cond.instanceMethod yX8_sheetWrong ∈ TBL := tb_5 114 rfl rfl
set_option maxRecDepth 20000 in
theorem cd_yX8_sheetWrong : Cond.code yX8_sheetWrong prog_10_method_59_code 2 (some FieldType.int) ∈ TBL := tb_5 115 rfl rfl
set_option maxRecDepth 20000 in
theorem ml_RX8_219 : Cond.methodLink RX8 219 yX8_unlike ∈ TBL := tb_5 116 rfl rfl
set_option maxRecDepth 20000 in
theorem im_yX8_unlike : Cond.instanceMethod yX8_unlike ∈ TBL := tb_5 118 rfl rfl
set_option maxRecDepth 20000 in
theorem cd_yX8_unlike : Cond.code yX8_unlike prog_10_method_60_code 4 (some FieldType.int) ∈ TBL := tb_5 119 rfl rfl
set_option maxRecDepth 20000 in
theorem ml_RL_114 : Cond.methodLink RL 114 yX8_kinds ∈ TBL := tb_5 120 rfl rfl
set_option maxRecDepth 20000 in
theorem im_yX8_kinds : Cond.instanceMethod yX8_kinds ∈ TBL := tb_5 121 rfl rfl
set_option maxRecDepth 20000 in
theorem se_yX8_kinds : Cond.selects RX8 yX8_kinds yX8_kinds ∈ TBL := tb_5 122 rfl rfl
set_option maxRecDepth 20000 in
theorem cd_yX8_kinds : Cond.code yX8_kinds prog_10_method_62_code 9 (some FieldType.int) ∈ TBL := tb_5 123 rfl rfl
set_option maxRecDepth 20000 in
theorem ml_RL_118 : Cond.methodLink RL 118 yX8_turned ∈ TBL := tb_5 124 rfl rfl
set_option maxRecDepth 20000 in
theorem im_yX8_turned : Cond.instanceMethod yX8_turned ∈ TBL := tb_5 125 rfl rfl
set_option maxRecDepth 20000 in
theorem se_yX8_turned : Cond.selects RX8 yX8_turned yX8_turned ∈ TBL := tb_5 126 rfl rfl
set_option maxRecDepth 20000 in
theorem cd_yX8_turned : Cond.code yX8_turned prog_10_method_63_code 6 (some FieldType.int) ∈ TBL := tb_5 127 rfl rfl
set_option maxRecDepth 20000 in
theorem ml_RL_123 : Cond.methodLink RL 123 yX8_states ∈ TBL := tb_5 128 rfl rfl
set_option maxRecDepth 20000 in
theorem im_yX8_states : Cond.instanceMethod yX8_states ∈ TBL := tb_5 129 rfl rfl
set_option maxRecDepth 20000 in
theorem se_yX8_states : Cond.selects RX8 yX8_states yX8_states ∈ TBL := tb_5 130 rfl rfl
set_option maxRecDepth 20000 in
theorem cd_yX8_states : Cond.code yX8_states prog_10_method_64_code 11 (some FieldType.int) ∈ TBL := tb_5 131 rfl rfl
set_option maxRecDepth 20000 in
theorem ml_RL_127 : Cond.methodLink RL 127 yX8_feared ∈ TBL := tb_5 132 rfl rfl
set_option maxRecDepth 20000 in
theorem im_yX8_feared : Cond.instanceMethod yX8_feared ∈ TBL := tb_5 133 rfl rfl
set_option maxRecDepth 20000 in
theorem se_yX8_feared : Cond.selects RX8 yX8_feared yX8_feared ∈ TBL := tb_5 134 rfl rfl
set_option maxRecDepth 20000 in
theorem cd_yX8_feared : Cond.code yX8_feared prog_10_method_65_code 5 (some FieldType.int) ∈ TBL := tb_5 135 rfl rfl
set_option maxRecDepth 20000 in
theorem ml_RL_131 : Cond.methodLink RL 131 yX8_laws ∈ TBL := tb_5 136 rfl rfl
set_option maxRecDepth 20000 in
theorem im_yX8_laws : Cond.instanceMethod yX8_laws ∈ TBL := tb_5 137 rfl rfl
set_option maxRecDepth 20000 in
theorem se_yX8_laws : Cond.selects RX8 yX8_laws yX8_laws ∈ TBL := tb_5 138 rfl rfl
set_option maxRecDepth 20000 in
theorem cd_yX8_laws : Cond.code yX8_laws prog_10_method_66_code 6 (some FieldType.int) ∈ TBL := tb_5 139 rfl rfl
set_option maxRecDepth 20000 in
theorem ml_RL_135 : Cond.methodLink RL 135 yX8_film ∈ TBL := tb_5 140 rfl rfl
set_option maxRecDepth 20000 in
theorem im_yX8_film : Cond.instanceMethod yX8_film ∈ TBL := tb_5 141 rfl rfl
set_option maxRecDepth 20000 in
theorem se_yX8_film : Cond.selects RX8 yX8_film yX8_film ∈ TBL := tb_5 142 rfl rfl
set_option maxRecDepth 20000 in
theorem cd_yX8_film : Cond.code yX8_film prog_10_method_67_code 4 (some FieldType.int) ∈ TBL := tb_5 143 rfl rfl
set_option maxRecDepth 20000 in
theorem ml_RL_139 : Cond.methodLink RL 139 yX8_drawn ∈ TBL := tb_5 144 rfl rfl
set_option maxRecDepth 20000 in
theorem im_yX8_drawn : Cond.instanceMethod yX8_drawn ∈ TBL := tb_5 145 rfl rfl
set_option maxRecDepth 20000 in
theorem se_yX8_drawn : Cond.selects RX8 yX8_drawn yX8_drawn ∈ TBL := tb_5 146 rfl rfl
set_option maxRecDepth 20000 in
theorem cd_yX8_drawn : Cond.code yX8_drawn prog_10_method_69_code 4 (some FieldType.int) ∈ TBL := tb_5 147 rfl rfl
set_option maxRecDepth 20000 in
theorem kc_RX8_233 : Cond.constant RX8 233 99999 ∈ TBL := tb_5 148 rfl rfl
set_option maxRecDepth 20000 in
theorem ml_RX8_234 : Cond.methodLink RX8 234 yX8_dinners ∈ TBL := tb_5 149 rfl rfl
set_option maxRecDepth 20000 in
theorem im_yX8_dinners : Cond.instanceMethod yX8_dinners ∈ TBL := tb_5 151 rfl rfl
set_option maxRecDepth 20000 in
theorem cd_yX8_dinners : Cond.code yX8_dinners prog_10_method_68_code 7 (some FieldType.int) ∈ TBL := tb_5 152 rfl rfl
set_option maxRecDepth 20000 in
theorem kl_RX8_222 : Cond.constantLong RX8 222 48271 ∈ TBL := tb_5 153 rfl rfl
set_option maxRecDepth 20000 in
theorem kl_RX8_224 : Cond.constantLong RX8 224 2147483647 ∈ TBL := tb_5 154 rfl rfl
set_option maxRecDepth 20000 in
theorem kl_RX8_226 : Cond.constantLong RX8 226 6 ∈ TBL := tb_5 155 rfl rfl
set_option maxRecDepth 20000 in
theorem kl_RX8_228 : Cond.constantLong RX8 228 10 ∈ TBL := tb_5 156 rfl rfl
set_option maxRecDepth 20000 in
theorem ml_RL_144 : Cond.methodLink RL 144 yX8_odds ∈ TBL := tb_5 157 rfl rfl
set_option maxRecDepth 20000 in
theorem im_yX8_odds : Cond.instanceMethod yX8_odds ∈ TBL := tb_5 158 rfl rfl
set_option maxRecDepth 20000 in
theorem se_yX8_odds : Cond.selects RX8 yX8_odds yX8_odds ∈ TBL := tb_5 159 rfl rfl
set_option maxRecDepth 20000 in
theorem cd_yX8_odds : Cond.code yX8_odds prog_10_method_70_code 8 (some FieldType.long) ∈ TBL := tb_5 160 rfl rfl
set_option maxRecDepth 20000 in
theorem ml_RL_148 : Cond.methodLink RL 148 yX8_image ∈ TBL := tb_5 161 rfl rfl
set_option maxRecDepth 20000 in
theorem im_yX8_image : Cond.instanceMethod yX8_image ∈ TBL := tb_5 162 rfl rfl
set_option maxRecDepth 20000 in
theorem se_yX8_image : Cond.selects RX8 yX8_image yX8_image ∈ TBL := tb_5 163 rfl rfl
set_option maxRecDepth 20000 in
theorem cd_yX8_image : Cond.code yX8_image prog_10_method_71_code 2 (some FieldType.int) ∈ TBL := tb_5 164 rfl rfl
set_option maxRecDepth 20000 in
theorem ml_RL_152 : Cond.methodLink RL 152 yX8_back ∈ TBL := tb_5 165 rfl rfl
set_option maxRecDepth 20000 in
theorem im_yX8_back : Cond.instanceMethod yX8_back ∈ TBL := tb_5 166 rfl rfl
set_option maxRecDepth 20000 in
theorem se_yX8_back : Cond.selects RX8 yX8_back yX8_back ∈ TBL := tb_5 167 rfl rfl
set_option maxRecDepth 20000 in
theorem cd_yX8_back : Cond.code yX8_back prog_10_method_72_code 2 (some FieldType.int) ∈ TBL := tb_5 168 rfl rfl
set_option maxRecDepth 20000 in
theorem ml_RL_156 : Cond.methodLink RL 156 yX8_sheet ∈ TBL := tb_5 169 rfl rfl
set_option maxRecDepth 20000 in
theorem im_yX8_sheet : Cond.instanceMethod yX8_sheet ∈ TBL := tb_5 170 rfl rfl
set_option maxRecDepth 20000 in
theorem se_yX8_sheet : Cond.selects RX8 yX8_sheet yX8_sheet ∈ TBL := tb_5 171 rfl rfl
set_option maxRecDepth 20000 in
theorem cd_yX8_sheet : Cond.code yX8_sheet prog_10_method_73_code 5 (some FieldType.int) ∈ TBL := tb_5 172 rfl rfl
set_option maxRecDepth 20000 in
theorem ml_RL_160 : Cond.methodLink RL 160 yX8_cell ∈ TBL := tb_5 173 rfl rfl
set_option maxRecDepth 20000 in
theorem im_yX8_cell : Cond.instanceMethod yX8_cell ∈ TBL := tb_5 174 rfl rfl
set_option maxRecDepth 20000 in
theorem se_yX8_cell : Cond.selects RX8 yX8_cell yX8_cell ∈ TBL := tb_5 175 rfl rfl
set_option maxRecDepth 20000 in
theorem cd_yX8_cell : Cond.code yX8_cell prog_10_method_74_code 4 (some FieldType.int) ∈ TBL := tb_5 176 rfl rfl
set_option maxRecDepth 20000 in
theorem ml_RL_165 : Cond.methodLink RL 165 yX8_copy ∈ TBL := tb_5 177 rfl rfl
set_option maxRecDepth 20000 in
theorem im_yX8_copy : Cond.instanceMethod yX8_copy ∈ TBL := tb_5 178 rfl rfl
set_option maxRecDepth 20000 in
theorem se_yX8_copy : Cond.selects RX8 yX8_copy yX8_copy ∈ TBL := tb_5 179 rfl rfl
set_option maxRecDepth 20000 in
theorem cd_yX8_copy : Cond.code yX8_copy prog_10_method_75_code 10 (some FieldType.int) ∈ TBL := tb_5 180 rfl rfl
set_option maxRecDepth 20000 in
theorem ml_RL_169 : Cond.methodLink RL 169 yX8_guestsBy ∈ TBL := tb_5 181 rfl rfl
set_option maxRecDepth 20000 in
theorem im_yX8_guestsBy : Cond.instanceMethod yX8_guestsBy ∈ TBL := tb_5 182 rfl rfl
set_option maxRecDepth 20000 in
theorem se_yX8_guestsBy : Cond.selects RX8 yX8_guestsBy yX8_guestsBy ∈ TBL := tb_5 183 rfl rfl
set_option maxRecDepth 20000 in
theorem cd_yX8_guestsBy : Cond.code yX8_guestsBy prog_10_method_76_code 9 (some FieldType.int) ∈ TBL := tb_5 184 rfl rfl
set_option maxRecDepth 20000 in
theorem ml_RX8_241 : Cond.methodLink RX8 241 yX8_guest ∈ TBL := tb_5 185 rfl rfl
set_option maxRecDepth 20000 in
theorem ml_RL_173 : Cond.methodLink RL 173 yX8_taken ∈ TBL := tb_5 186 rfl rfl
set_option maxRecDepth 20000 in
theorem im_yX8_taken : Cond.instanceMethod yX8_taken ∈ TBL := tb_5 187 rfl rfl
set_option maxRecDepth 20000 in
theorem se_yX8_taken : Cond.selects RX8 yX8_taken yX8_taken ∈ TBL := tb_5 188 rfl rfl
set_option maxRecDepth 20000 in
theorem cd_yX8_taken : Cond.code yX8_taken prog_10_method_78_code 3 (some FieldType.int) ∈ TBL := tb_5 189 rfl rfl
set_option maxRecDepth 20000 in
theorem ml_RX8_244 : Cond.methodLink RX8 244 yX8_isUnder ∈ TBL := tb_5 190 rfl rfl
set_option maxRecDepth 20000 in
theorem st_yX8_isUnder : Cond.static yX8_isUnder ∈ TBL := tb_5 191 rfl rfl
set_option maxRecDepth 20000 in
theorem cd_yX8_isUnder : Cond.code yX8_isUnder prog_10_method_77_code 2 (some FieldType.boolean) ∈ TBL := tb_5 192 rfl rfl
set_option maxRecDepth 20000 in
theorem fl_RJ0_9 : Cond.fieldLink RJ0 9 RJ0 "value" "[B" ∈ TBL := tb_5 193 rfl rfl
set_option maxRecDepth 20000 in
theorem fl_RJ0_15 : Cond.fieldLink RJ0 15 RJ0 "coder" "B" ∈ TBL := tb_5 194 rfl rfl
theorem in_RX0 : ∀ w ∈ u_ws RX0 TX0 7, w ∈ TBL := by decide +kernel
theorem in_RX1 : ∀ w ∈ u_ws RX1 TX1 2, w ∈ TBL := by decide +kernel
theorem in_RX2 : ∀ w ∈ u_ws RX2 TX2 4, w ∈ TBL := by decide +kernel
theorem in_RX3 : ∀ w ∈ u_ws RX3 TX3 3, w ∈ TBL := by decide +kernel
theorem in_RX4 : ∀ w ∈ u_ws RX4 TX4 4, w ∈ TBL := by decide +kernel
theorem in_RX5 : ∀ w ∈ u_ws RX5 TX5 6, w ∈ TBL := by decide +kernel
theorem in_RX6 : ∀ w ∈ u_ws RX6 TX6 4, w ∈ TBL := by decide +kernel
theorem in_RX7 : ∀ w ∈ u_ws RX7 TX7 10, w ∈ TBL := by decide +kernel
theorem in_RX8 : ∀ w ∈ u_ws RX8 TX8 31, w ∈ TBL := by decide +kernel
