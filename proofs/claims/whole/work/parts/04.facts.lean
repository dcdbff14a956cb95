set_option maxRecDepth 20000 in
theorem iX0 : ∀ w ∈ wsX00, w ∈ TT := TT_by [150, 152, 154] (by decide +kernel) (by decide +kernel)
set_option maxRecDepth 20000 in
theorem iX1 : ∀ w ∈ wsX10, w ∈ TT := TT_by [259, 261, 263, 265] (by decide +kernel) (by decide +kernel)
set_option maxRecDepth 20000 in
theorem iX2 : ∀ w ∈ wsX20, w ∈ TT := TT_by [173, 175, 177, 179, 181] (by decide +kernel) (by decide +kernel)
set_option maxRecDepth 20000 in
theorem iX3 : ∀ w ∈ wsX30, w ∈ TT := TT_by [116, 118, 120] (by decide +kernel) (by decide +kernel)
set_option maxRecDepth 20000 in
theorem iX4 : ∀ w ∈ wsX40, w ∈ TT := TT_by [133, 135, 137] (by decide +kernel) (by decide +kernel)
set_option maxRecDepth 20000 in
theorem iX5 : ∀ w ∈ wsX50, w ∈ TT := TT_by [230, 232, 234, 236, 238, 240, 242, 244] (by decide +kernel) (by decide +kernel)
set_option maxRecDepth 20000 in
theorem iX6 : ∀ w ∈ wsX60, w ∈ TT := TT_by [80, 82, 84, 86, 88, 90, 92, 94, 96, 98, 100] (by decide +kernel) (by decide +kernel)
set_option maxRecDepth 20000 in
theorem iX7 : ∀ w ∈ wsX70, w ∈ TT := TT_by [201, 203, 205, 207, 209, 211] (by decide +kernel) (by decide +kernel)
set_option maxRecDepth 20000 in
theorem iX8 : ∀ w ∈ wsX80, w ∈ TT := TT_by [272, 274, 276, 278] (by decide +kernel) (by decide +kernel)
set_option maxRecDepth 20000 in
theorem iX9 : ∀ w ∈ wsX90, w ∈ TT := TT_by [688, 690, 692, 694, 696, 698, 700, 702, 704] (by decide +kernel) (by decide +kernel)
set_option maxRecDepth 20000 in
theorem cd_X8_init : Cond.code yX8_init cX8_init 1 none ∈ TT := TT_mem 46 (by decide +kernel) rfl
set_option maxRecDepth 20000 in
theorem dd_X8_init : yX8_init.cls ≠ "java/lang/invoke/MethodHandle" ∧ yX8_init.cls ≠ "java/lang/invoke/VarHandle" ∧ (parseMethodDescriptor yX8_init.desc).map (fun d => d.parameters.length) = some 0 := by decide +kernel
set_option maxRecDepth 20000 in
theorem cf_X8_3 : ∀ w ∈ ([.methodLink RX8 3 objectInit, .instanceMethod objectInit, .code objectInit ⟨#[0xb1]⟩ 1 none] : List Cond), w ∈ TT := TT_by [47, 48, 49] (by decide +kernel) rfl
set_option maxRecDepth 20000 in
theorem nw_X8_9 : ∀ w ∈ ([.classLink RX8 9 RX5, .instantiable RX5 8, .initialized RX5] : List Cond), w ∈ TT := TT_by [50, 51, 29] (by decide +kernel) rfl
set_option maxRecDepth 20000 in
theorem cf_X8_11 : ∀ w ∈ ([.instanceMethod yX5_init, .initialized yX5_init.cls] : List Cond), w ∈ TT := TT_by [53, 29] (by decide +kernel) rfl
set_option maxRecDepth 20000 in
theorem fl_X8_12 : Cond.fieldLink RX8 12 (TX8 0).1 (TX8 0).2.1 (TX8 0).2.2.1 ∈ TT := TT_mem 268 (by decide +kernel) rfl
set_option maxRecDepth 20000 in
theorem fl_X8_16 : Cond.fieldLink RX8 16 (TX8 1).1 (TX8 1).2.1 (TX8 1).2.2.1 ∈ TT := TT_mem 269 (by decide +kernel) rfl
set_option maxRecDepth 20000 in
theorem fl_X8_20 : Cond.fieldLink RX8 20 (TX8 2).1 (TX8 2).2.1 (TX8 2).2.2.1 ∈ TT := TT_mem 270 (by decide +kernel) rfl
set_option maxRecDepth 20000 in
theorem nw_X8_24 : ∀ w ∈ ([.classLink RX8 24 RX1, .instantiable RX1 4, .initialized RX1] : List Cond), w ∈ TT := TT_by [248, 249, 36] (by decide +kernel) rfl
set_option maxRecDepth 20000 in
theorem cf_X8_26 : ∀ w ∈ ([.instanceMethod yX1_init, .initialized yX1_init.cls] : List Cond), w ∈ TT := TT_by [251, 36] (by decide +kernel) rfl
set_option maxRecDepth 20000 in
theorem fl_X8_27 : Cond.fieldLink RX8 27 (TX8 3).1 (TX8 3).2.1 (TX8 3).2.2.1 ∈ TT := TT_mem 271 (by decide +kernel) rfl
set_option maxRecDepth 20000 in
theorem cd_X8_wire : Cond.code yX8_wire cX8_wire 2 (some .boolean) ∈ TT := TT_mem 284 (by decide +kernel) rfl
set_option maxRecDepth 20000 in
theorem dd_X8_wire : yX8_wire.cls ≠ "java/lang/invoke/MethodHandle" ∧ yX8_wire.cls ≠ "java/lang/invoke/VarHandle" ∧ (parseMethodDescriptor yX8_wire.desc).map (fun d => d.parameters.length) = some 1 := by decide +kernel
set_option maxRecDepth 20000 in
theorem fl_X8_31 : Cond.fieldLink RX8 31 (TX5 6).1 (TX5 6).2.1 (TX5 6).2.2.1 ∈ TT := TT_mem 227 (by decide +kernel) rfl
set_option maxRecDepth 20000 in
theorem cd_X8_tag : Cond.code yX8_tag cX8_tag 7 (some .int) ∈ TT := TT_mem 288 (by decide +kernel) rfl
set_option maxRecDepth 20000 in
theorem dd_X8_tag : yX8_tag.cls ≠ "java/lang/invoke/MethodHandle" ∧ yX8_tag.cls ≠ "java/lang/invoke/VarHandle" ∧ (parseMethodDescriptor yX8_tag.desc).map (fun d => d.parameters.length) = some 3 := by decide +kernel
set_option maxRecDepth 20000 in
theorem cf_X8_35 : ∀ w ∈ ([.methodLink RX8 35 yX8_sumOf, .static yX8_sumOf, .initialized yX8_sumOf.cls] : List Cond), w ∈ TT := TT_by [289, 290, 28] (by decide +kernel) rfl
set_option maxRecDepth 20000 in
theorem fl_X8_39 : Cond.fieldLink RX8 39 (TX5 0).1 (TX5 0).2.1 (TX5 0).2.2.1 ∈ TT := TT_mem 215 (by decide +kernel) rfl
set_option maxRecDepth 20000 in
theorem cf_X8_43 : ∀ w ∈ ([.methodLink RX8 43 yX6_add, .instanceMethod yX6_add, .selects yX6_add.cls yX6_add yX6_add, .initialized yX6_add.cls] : List Cond), w ∈ TT := TT_by [295, 296, 297, 30] (by decide +kernel) rfl
set_option maxRecDepth 20000 in
theorem cd_X8_name : Cond.code yX8_name cX8_name 2 (some .long) ∈ TT := TT_mem 318 (by decide +kernel) rfl
set_option maxRecDepth 20000 in
theorem dd_X8_name : yX8_name.cls ≠ "java/lang/invoke/MethodHandle" ∧ yX8_name.cls ≠ "java/lang/invoke/VarHandle" ∧ (parseMethodDescriptor yX8_name.desc).map (fun d => d.parameters.length) = some 1 := by decide +kernel
set_option maxRecDepth 20000 in
theorem cf_X8_49 : ∀ w ∈ ([.methodLink RX8 49 yX6_has, .instanceMethod yX6_has, .selects yX6_has.cls yX6_has yX6_has, .initialized yX6_has.cls] : List Cond), w ∈ TT := TT_by [319, 320, 321, 30] (by decide +kernel) rfl
set_option maxRecDepth 20000 in
theorem fl_X8_53 : Cond.fieldLink RX8 53 (TX6 1).1 (TX6 1).2.1 (TX6 1).2.2.1 ∈ TT := TT_mem 65 (by decide +kernel) rfl
set_option maxRecDepth 20000 in
theorem cd_X8_isName : Cond.code yX8_isName cX8_isName 3 (some .boolean) ∈ TT := TT_mem 326 (by decide +kernel) rfl
set_option maxRecDepth 20000 in
theorem dd_X8_isName : yX8_isName.cls ≠ "java/lang/invoke/MethodHandle" ∧ yX8_isName.cls ≠ "java/lang/invoke/VarHandle" ∧ (parseMethodDescriptor yX8_isName.desc).map (fun d => d.parameters.length) = some 1 := by decide +kernel
set_option maxRecDepth 20000 in
theorem ld_X8_56 : Cond.constantLong RX8 56 (255) ∈ TT := TT_mem 327 (by decide +kernel) rfl
set_option maxRecDepth 20000 in
theorem cd_X8_tell : Cond.code yX8_tell cX8_tell 3 (some .int) ∈ TT := TT_mem 331 (by decide +kernel) rfl
set_option maxRecDepth 20000 in
theorem dd_X8_tell : yX8_tell.cls ≠ "java/lang/invoke/MethodHandle" ∧ yX8_tell.cls ≠ "java/lang/invoke/VarHandle" ∧ (parseMethodDescriptor yX8_tell.desc).map (fun d => d.parameters.length) = some 2 := by decide +kernel
set_option maxRecDepth 20000 in
theorem fl_X8_58 : Cond.fieldLink RX8 58 (TX6 0).1 (TX6 0).2.1 (TX6 0).2.2.1 ∈ TT := TT_mem 63 (by decide +kernel) rfl
set_option maxRecDepth 20000 in
theorem fl_X8_62 : Cond.fieldLink RX8 62 (TX6 6).1 (TX6 6).2.1 (TX6 6).2.2.1 ∈ TT := TT_mem 74 (by decide +kernel) rfl
set_option maxRecDepth 20000 in
theorem cf_X8_66 : ∀ w ∈ ([.methodLink RX8 66 yX8_isIn, .static yX8_isIn, .initialized yX8_isIn.cls] : List Cond), w ∈ TT := TT_by [332, 333, 28] (by decide +kernel) rfl
set_option maxRecDepth 20000 in
theorem cf_X8_70 : ∀ w ∈ ([.methodLink RX8 70 yX8_oneIf, .static yX8_oneIf, .initialized yX8_oneIf.cls] : List Cond), w ∈ TT := TT_by [336, 337, 28] (by decide +kernel) rfl
set_option maxRecDepth 20000 in
theorem fl_X8_74 : Cond.fieldLink RX8 74 (TX6 7).1 (TX6 7).2.1 (TX6 7).2.2.1 ∈ TT := TT_mem 76 (by decide +kernel) rfl
set_option maxRecDepth 20000 in
theorem cf_X8_77 : ∀ w ∈ ([.methodLink RX8 77 yX6_listening, .instanceMethod yX6_listening, .selects yX6_listening.cls yX6_listening yX6_listening, .initialized yX6_listening.cls] : List Cond), w ∈ TT := TT_by [339, 340, 341, 30] (by decide +kernel) rfl
set_option maxRecDepth 20000 in
theorem fl_X8_81 : Cond.fieldLink RX8 81 (TX5 3).1 (TX5 3).2.1 (TX5 3).2.2.1 ∈ TT := TT_mem 221 (by decide +kernel) rfl
set_option maxRecDepth 20000 in
theorem cf_X8_85 : ∀ w ∈ ([.methodLink RX8 85 yX0_of, .instanceMethod yX0_of, .selects yX0_of.cls yX0_of yX0_of, .initialized yX0_of.cls] : List Cond), w ∈ TT := TT_by [343, 344, 345, 33] (by decide +kernel) rfl
set_option maxRecDepth 20000 in
theorem fl_X8_91 : Cond.fieldLink RX8 91 (TX6 2).1 (TX6 2).2.1 (TX6 2).2.2.1 ∈ TT := TT_mem 67 (by decide +kernel) rfl
set_option maxRecDepth 20000 in
theorem fl_X8_94 : Cond.fieldLink RX8 94 (TX5 5).1 (TX5 5).2.1 (TX5 5).2.2.1 ∈ TT := TT_mem 225 (by decide +kernel) rfl
set_option maxRecDepth 20000 in
theorem cf_X8_98 : ∀ w ∈ ([.methodLink RX8 98 yX7_timesFound, .instanceMethod yX7_timesFound, .selects yX7_timesFound.cls yX7_timesFound yX7_timesFound, .initialized yX7_timesFound.cls] : List Cond), w ∈ TT := TT_by [348, 349, 350, 35] (by decide +kernel) rfl
set_option maxRecDepth 20000 in
theorem cd_X8_act : Cond.code yX8_act cX8_act 3 (some .boolean) ∈ TT := TT_mem 355 (by decide +kernel) rfl
set_option maxRecDepth 20000 in
theorem dd_X8_act : yX8_act.cls ≠ "java/lang/invoke/MethodHandle" ∧ yX8_act.cls ≠ "java/lang/invoke/VarHandle" ∧ (parseMethodDescriptor yX8_act.desc).map (fun d => d.parameters.length) = some 2 := by decide +kernel
set_option maxRecDepth 20000 in
theorem cf_X8_103 : ∀ w ∈ ([.methodLink RX8 103 yX6_setThere, .instanceMethod yX6_setThere, .selects yX6_setThere.cls yX6_setThere yX6_setThere, .initialized yX6_setThere.cls] : List Cond), w ∈ TT := TT_by [356, 357, 358, 30] (by decide +kernel) rfl
set_option maxRecDepth 20000 in
theorem cf_X8_107 : ∀ w ∈ ([.methodLink RX8 107 yX6_setAwake, .instanceMethod yX6_setAwake, .selects yX6_setAwake.cls yX6_setAwake yX6_setAwake, .initialized yX6_setAwake.cls] : List Cond), w ∈ TT := TT_by [361, 362, 363, 30] (by decide +kernel) rfl
set_option maxRecDepth 20000 in
theorem cd_X8_group : Cond.code yX8_group cX8_group 5 (some .int) ∈ TT := TT_mem 368 (by decide +kernel) rfl
set_option maxRecDepth 20000 in
theorem dd_X8_group : yX8_group.cls ≠ "java/lang/invoke/MethodHandle" ∧ yX8_group.cls ≠ "java/lang/invoke/VarHandle" ∧ (parseMethodDescriptor yX8_group.desc).map (fun d => d.parameters.length) = some 2 := by decide +kernel
set_option maxRecDepth 20000 in
theorem cf_X8_110 : ∀ w ∈ ([.methodLink RX8 110 yX6_regroup, .instanceMethod yX6_regroup, .selects yX6_regroup.cls yX6_regroup yX6_regroup, .initialized yX6_regroup.cls] : List Cond), w ∈ TT := TT_by [369, 370, 371, 30] (by decide +kernel) rfl
set_option maxRecDepth 20000 in
theorem cf_X8_114 : ∀ w ∈ ([.methodLink RX8 114 yJ13_bitCount_95d88, .static yJ13_bitCount_95d88, .initialized yJ13_bitCount_95d88.cls] : List Cond), w ∈ TT := TT_by [373, 374, 38] (by decide +kernel) rfl
set_option maxRecDepth 20000 in
theorem cd_X8_pass : Cond.code yX8_pass cX8_pass 12 (some .int) ∈ TT := TT_mem 382 (by decide +kernel) rfl
set_option maxRecDepth 20000 in
theorem dd_X8_pass : yX8_pass.cls ≠ "java/lang/invoke/MethodHandle" ∧ yX8_pass.cls ≠ "java/lang/invoke/VarHandle" ∧ (parseMethodDescriptor yX8_pass.desc).map (fun d => d.parameters.length) = some 0 := by decide +kernel
set_option maxRecDepth 20000 in
theorem cf_X8_119 : ∀ w ∈ ([.methodLink RX8 119 yX6_tellingOne, .instanceMethod yX6_tellingOne, .selects yX6_tellingOne.cls yX6_tellingOne yX6_tellingOne, .initialized yX6_tellingOne.cls] : List Cond), w ∈ TT := TT_by [383, 384, 385, 30] (by decide +kernel) rfl
set_option maxRecDepth 20000 in
theorem ld_X8_123 : Cond.constantLong RX8 123 (-1) ∈ TT := TT_mem 387 (by decide +kernel) rfl
set_option maxRecDepth 20000 in
theorem fl_X8_125 : Cond.fieldLink RX8 125 (TX5 1).1 (TX5 1).2.1 (TX5 1).2.2.1 ∈ TT := TT_mem 217 (by decide +kernel) rfl
set_option maxRecDepth 20000 in
theorem cf_X8_129 : ∀ w ∈ ([.methodLink RX8 129 yX3_wayIsOneAt, .instanceMethod yX3_wayIsOneAt, .selects yX3_wayIsOneAt.cls yX3_wayIsOneAt yX3_wayIsOneAt, .initialized yX3_wayIsOneAt.cls] : List Cond), w ∈ TT := TT_by [388, 389, 390, 31] (by decide +kernel) rfl
set_option maxRecDepth 20000 in
theorem cf_X8_134 : ∀ w ∈ ([.methodLink RX8 134 yX7_addPassSlots, .instanceMethod yX7_addPassSlots, .selects yX7_addPassSlots.cls yX7_addPassSlots yX7_addPassSlots, .initialized yX7_addPassSlots.cls] : List Cond), w ∈ TT := TT_by [393, 394, 395, 35] (by decide +kernel) rfl
set_option maxRecDepth 20000 in
theorem cf_X8_138 : ∀ w ∈ ([.methodLink RX8 138 yX8_firstOf, .static yX8_firstOf, .initialized yX8_firstOf.cls] : List Cond), w ∈ TT := TT_by [397, 398, 28] (by decide +kernel) rfl
set_option maxRecDepth 20000 in
theorem cf_X8_141 : ∀ w ∈ ([.methodLink RX8 141 yX3_endRow, .instanceMethod yX3_endRow, .selects yX3_endRow.cls yX3_endRow yX3_endRow, .initialized yX3_endRow.cls] : List Cond), w ∈ TT := TT_by [400, 401, 402, 31] (by decide +kernel) rfl
set_option maxRecDepth 20000 in
theorem cf_X8_144 : ∀ w ∈ ([.methodLink RX8 144 yX3_goOnFrom, .instanceMethod yX3_goOnFrom, .selects yX3_goOnFrom.cls yX3_goOnFrom yX3_goOnFrom, .initialized yX3_goOnFrom.cls] : List Cond), w ∈ TT := TT_by [404, 405, 406, 31] (by decide +kernel) rfl
set_option maxRecDepth 20000 in
theorem cf_X8_148 : ∀ w ∈ ([.methodLink RX8 148 yX7_addFound, .instanceMethod yX7_addFound, .selects yX7_addFound.cls yX7_addFound yX7_addFound, .initialized yX7_addFound.cls] : List Cond), w ∈ TT := TT_by [409, 410, 411, 35] (by decide +kernel) rfl
set_option maxRecDepth 20000 in
theorem cd_X8_fork : Cond.code yX8_fork cX8_fork 2 (some .int) ∈ TT := TT_mem 416 (by decide +kernel) rfl
set_option maxRecDepth 20000 in
theorem dd_X8_fork : yX8_fork.cls ≠ "java/lang/invoke/MethodHandle" ∧ yX8_fork.cls ≠ "java/lang/invoke/VarHandle" ∧ (parseMethodDescriptor yX8_fork.desc).map (fun d => d.parameters.length) = some 1 := by decide +kernel
set_option maxRecDepth 20000 in
theorem fl_X8_151 : Cond.fieldLink RX8 151 (TX3 0).1 (TX3 0).2.1 (TX3 0).2.2.1 ∈ TT := TT_mem 112 (by decide +kernel) rfl
set_option maxRecDepth 20000 in
theorem fl_X8_154 : Cond.fieldLink RX8 154 (TX3 1).1 (TX3 1).2.1 (TX3 1).2.2.1 ∈ TT := TT_mem 114 (by decide +kernel) rfl
set_option maxRecDepth 20000 in
theorem cd_X8_verify : Cond.code yX8_verify cX8_verify 9 (some .boolean) ∈ TT := TT_mem 420 (by decide +kernel) rfl
set_option maxRecDepth 20000 in
theorem dd_X8_verify : yX8_verify.cls ≠ "java/lang/invoke/MethodHandle" ∧ yX8_verify.cls ≠ "java/lang/invoke/VarHandle" ∧ (parseMethodDescriptor yX8_verify.desc).map (fun d => d.parameters.length) = some 1 := by decide +kernel
set_option maxRecDepth 20000 in
theorem cf_X8_157 : ∀ w ∈ ([.methodLink RX8 157 yX8_isOneAt, .static yX8_isOneAt, .initialized yX8_isOneAt.cls] : List Cond), w ∈ TT := TT_by [292, 293, 28] (by decide +kernel) rfl
set_option maxRecDepth 20000 in
theorem cd_X8_ask : Cond.code yX8_ask cX8_ask 4 (some .int) ∈ TT := TT_mem 424 (by decide +kernel) rfl
set_option maxRecDepth 20000 in
theorem dd_X8_ask : yX8_ask.cls ≠ "java/lang/invoke/MethodHandle" ∧ yX8_ask.cls ≠ "java/lang/invoke/VarHandle" ∧ (parseMethodDescriptor yX8_ask.desc).map (fun d => d.parameters.length) = some 2 := by decide +kernel
set_option maxRecDepth 20000 in
theorem cf_X8_160 : ∀ w ∈ ([.methodLink RX8 160 yX6_beginningWith, .instanceMethod yX6_beginningWith, .selects yX6_beginningWith.cls yX6_beginningWith yX6_beginningWith, .initialized yX6_beginningWith.cls] : List Cond), w ∈ TT := TT_by [425, 426, 427, 30] (by decide +kernel) rfl
set_option maxRecDepth 20000 in
theorem cf_X8_163 : ∀ w ∈ ([.methodLink RX8 163 yX8_hearSlot, .instanceMethod yX8_hearSlot, .selects yX8_hearSlot.cls yX8_hearSlot yX8_hearSlot, .initialized yX8_hearSlot.cls] : List Cond), w ∈ TT := TT_by [436, 438, 3, 28] (by decide +kernel) rfl
set_option maxRecDepth 20000 in
theorem cd_X8_alone : Cond.code yX8_alone cX8_alone 1 (some .int) ∈ TT := TT_mem 454 (by decide +kernel) rfl
set_option maxRecDepth 20000 in
theorem dd_X8_alone : yX8_alone.cls ≠ "java/lang/invoke/MethodHandle" ∧ yX8_alone.cls ≠ "java/lang/invoke/VarHandle" ∧ (parseMethodDescriptor yX8_alone.desc).map (fun d => d.parameters.length) = some 0 := by decide +kernel
set_option maxRecDepth 20000 in
theorem fl_X8_166 : Cond.fieldLink RX8 166 (TX5 7).1 (TX5 7).2.1 (TX5 7).2.2.1 ∈ TT := TT_mem 229 (by decide +kernel) rfl
set_option maxRecDepth 20000 in
theorem cd_X8_descend : Cond.code yX8_descend cX8_descend 1 none ∈ TT := TT_mem 458 (by decide +kernel) rfl
set_option maxRecDepth 20000 in
theorem dd_X8_descend : yX8_descend.cls ≠ "java/lang/invoke/MethodHandle" ∧ yX8_descend.cls ≠ "java/lang/invoke/VarHandle" ∧ (parseMethodDescriptor yX8_descend.desc).map (fun d => d.parameters.length) = some 0 := by decide +kernel
set_option maxRecDepth 20000 in
theorem fl_X8_169 : Cond.fieldLink RX8 169 (TX5 2).1 (TX5 2).2.1 (TX5 2).2.2.1 ∈ TT := TT_mem 219 (by decide +kernel) rfl
set_option maxRecDepth 20000 in
theorem cf_X8_173 : ∀ w ∈ ([.methodLink RX8 173 yX4_startAnew, .instanceMethod yX4_startAnew, .selects yX4_startAnew.cls yX4_startAnew yX4_startAnew, .initialized yX4_startAnew.cls] : List Cond), w ∈ TT := TT_by [459, 460, 461, 32] (by decide +kernel) rfl
set_option maxRecDepth 20000 in
theorem cd_X8_step : Cond.code yX8_step cX8_step 5 (some .int) ∈ TT := TT_mem 470 (by decide +kernel) rfl
set_option maxRecDepth 20000 in
theorem dd_X8_step : yX8_step.cls ≠ "java/lang/invoke/MethodHandle" ∧ yX8_step.cls ≠ "java/lang/invoke/VarHandle" ∧ (parseMethodDescriptor yX8_step.desc).map (fun d => d.parameters.length) = some 0 := by decide +kernel
set_option maxRecDepth 20000 in
theorem fl_X8_178 : Cond.fieldLink RX8 178 (TX4 2).1 (TX4 2).2.1 (TX4 2).2.2.1 ∈ TT := TT_mem 132 (by decide +kernel) rfl
set_option maxRecDepth 20000 in
theorem cf_X8_181 : ∀ w ∈ ([.methodLink RX8 181 yX4_topRow, .instanceMethod yX4_topRow, .selects yX4_topRow.cls yX4_topRow yX4_topRow, .initialized yX4_topRow.cls] : List Cond), w ∈ TT := TT_by [471, 472, 473, 32] (by decide +kernel) rfl
set_option maxRecDepth 20000 in
theorem cf_X8_184 : ∀ w ∈ ([.methodLink RX8 184 yX4_topLength, .instanceMethod yX4_topLength, .selects yX4_topLength.cls yX4_topLength yX4_topLength, .initialized yX4_topLength.cls] : List Cond), w ∈ TT := TT_by [475, 476, 477, 32] (by decide +kernel) rfl
set_option maxRecDepth 20000 in
theorem cf_X8_188 : ∀ w ∈ ([.methodLink RX8 188 yX4_dropTop, .instanceMethod yX4_dropTop, .selects yX4_dropTop.cls yX4_dropTop yX4_dropTop, .initialized yX4_dropTop.cls] : List Cond), w ∈ TT := TT_by [479, 480, 481, 32] (by decide +kernel) rfl
set_option maxRecDepth 20000 in
theorem cf_X8_191 : ∀ w ∈ ([.methodLink RX8 191 yX4_addBoth, .instanceMethod yX4_addBoth, .selects yX4_addBoth.cls yX4_addBoth yX4_addBoth, .initialized yX4_addBoth.cls] : List Cond), w ∈ TT := TT_by [483, 484, 485, 32] (by decide +kernel) rfl
set_option maxRecDepth 20000 in
theorem cd_X8_nodes : Cond.code yX8_nodes cX8_nodes 8 (some .int) ∈ TT := TT_mem 490 (by decide +kernel) rfl
set_option maxRecDepth 20000 in
theorem dd_X8_nodes : yX8_nodes.cls ≠ "java/lang/invoke/MethodHandle" ∧ yX8_nodes.cls ≠ "java/lang/invoke/VarHandle" ∧ (parseMethodDescriptor yX8_nodes.desc).map (fun d => d.parameters.length) = some 0 := by decide +kernel
set_option maxRecDepth 20000 in
theorem cf_X8_195 : ∀ w ∈ ([.methodLink RX8 195 yX6_asked, .instanceMethod yX6_asked, .selects yX6_asked.cls yX6_asked yX6_asked, .initialized yX6_asked.cls] : List Cond), w ∈ TT := TT_by [491, 430, 431, 30] (by decide +kernel) rfl
set_option maxRecDepth 20000 in
theorem cf_X8_198 : ∀ w ∈ ([.methodLink RX8 198 yX8_admitCrowd, .instanceMethod yX8_admitCrowd, .selects yX8_admitCrowd.cls yX8_admitCrowd yX8_admitCrowd, .initialized yX8_admitCrowd.cls] : List Cond), w ∈ TT := TT_by [492, 494, 6, 28] (by decide +kernel) rfl
set_option maxRecDepth 20000 in
theorem cf_X8_202 : ∀ w ∈ ([.methodLink RX8 202 yX1_turn, .instanceMethod yX1_turn, .selects yX1_turn.cls yX1_turn yX1_turn, .initialized yX1_turn.cls] : List Cond), w ∈ TT := TT_by [500, 501, 502, 36] (by decide +kernel) rfl
set_option maxRecDepth 20000 in
theorem fl_X8_205 : Cond.fieldLink RX8 205 (TX1 3).1 (TX1 3).2.1 (TX1 3).2.2.1 ∈ TT := TT_mem 258 (by decide +kernel) rfl
set_option maxRecDepth 20000 in
theorem cf_X8_206 : ∀ w ∈ ([.methodLink RX8 206 yX1_at, .instanceMethod yX1_at, .selects yX1_at.cls yX1_at yX1_at, .initialized yX1_at.cls] : List Cond), w ∈ TT := TT_by [507, 508, 509, 36] (by decide +kernel) rfl
set_option maxRecDepth 20000 in
theorem cd_X8_begin : Cond.code yX8_begin cX8_begin 3 (some .int) ∈ TT := TT_mem 514 (by decide +kernel) rfl
set_option maxRecDepth 20000 in
theorem dd_X8_begin : yX8_begin.cls ≠ "java/lang/invoke/MethodHandle" ∧ yX8_begin.cls ≠ "java/lang/invoke/VarHandle" ∧ (parseMethodDescriptor yX8_begin.desc).map (fun d => d.parameters.length) = some 0 := by decide +kernel
set_option maxRecDepth 20000 in
theorem cf_X8_210 : ∀ w ∈ ([.methodLink RX8 210 yX6_splitting, .instanceMethod yX6_splitting, .selects yX6_splitting.cls yX6_splitting yX6_splitting, .initialized yX6_splitting.cls] : List Cond), w ∈ TT := TT_by [515, 516, 517, 30] (by decide +kernel) rfl
set_option maxRecDepth 20000 in
theorem cf_X8_213 : ∀ w ∈ ([.methodLink RX8 213 yX0_start, .instanceMethod yX0_start, .selects yX0_start.cls yX0_start yX0_start, .initialized yX0_start.cls] : List Cond), w ∈ TT := TT_by [519, 520, 521, 33] (by decide +kernel) rfl
set_option maxRecDepth 20000 in
theorem cd_X8_split : Cond.code yX8_split cX8_split 6 (some .int) ∈ TT := TT_mem 529 (by decide +kernel) rfl
set_option maxRecDepth 20000 in
theorem dd_X8_split : yX8_split.cls ≠ "java/lang/invoke/MethodHandle" ∧ yX8_split.cls ≠ "java/lang/invoke/VarHandle" ∧ (parseMethodDescriptor yX8_split.desc).map (fun d => d.parameters.length) = some 0 := by decide +kernel
set_option maxRecDepth 20000 in
theorem cf_X8_216 : ∀ w ∈ ([.methodLink RX8 216 yX0_isUnderWay, .instanceMethod yX0_isUnderWay, .selects yX0_isUnderWay.cls yX0_isUnderWay yX0_isUnderWay, .initialized yX0_isUnderWay.cls] : List Cond), w ∈ TT := TT_by [530, 531, 532, 33] (by decide +kernel) rfl
set_option maxRecDepth 20000 in
theorem cf_X8_220 : ∀ w ∈ ([.methodLink RX8 220 yX0_atZero, .instanceMethod yX0_atZero, .selects yX0_atZero.cls yX0_atZero yX0_atZero, .initialized yX0_atZero.cls] : List Cond), w ∈ TT := TT_by [534, 535, 536, 33] (by decide +kernel) rfl
set_option maxRecDepth 20000 in
theorem cf_X8_224 : ∀ w ∈ ([.methodLink RX8 224 yX0_shift, .instanceMethod yX0_shift, .selects yX0_shift.cls yX0_shift yX0_shift, .initialized yX0_shift.cls] : List Cond), w ∈ TT := TT_by [539, 540, 541, 33] (by decide +kernel) rfl
set_option maxRecDepth 20000 in
theorem cf_X8_227 : ∀ w ∈ ([.methodLink RX8 227 yX8_drawCounters, .instanceMethod yX8_drawCounters, .selects yX8_drawCounters.cls yX8_drawCounters yX8_drawCounters, .initialized yX8_drawCounters.cls] : List Cond), w ∈ TT := TT_by [546, 548, 7, 28] (by decide +kernel) rfl
set_option maxRecDepth 20000 in
theorem cf_X8_230 : ∀ w ∈ ([.methodLink RX8 230 yX0_release, .instanceMethod yX0_release, .selects yX0_release.cls yX0_release yX0_release, .initialized yX0_release.cls] : List Cond), w ∈ TT := TT_by [560, 561, 562, 33] (by decide +kernel) rfl
set_option maxRecDepth 20000 in
theorem cf_X8_233 : ∀ w ∈ ([.methodLink RX8 233 yX8_findAndTire, .instanceMethod yX8_findAndTire, .selects yX8_findAndTire.cls yX8_findAndTire yX8_findAndTire, .initialized yX8_findAndTire.cls] : List Cond), w ∈ TT := TT_by [565, 567, 8, 28] (by decide +kernel) rfl
set_option maxRecDepth 20000 in
theorem cd_X8_frames : Cond.code yX8_frames cX8_frames 1 none ∈ TT := TT_mem 576 (by decide +kernel) rfl
set_option maxRecDepth 20000 in
theorem dd_X8_frames : yX8_frames.cls ≠ "java/lang/invoke/MethodHandle" ∧ yX8_frames.cls ≠ "java/lang/invoke/VarHandle" ∧ (parseMethodDescriptor yX8_frames.desc).map (fun d => d.parameters.length) = some 0 := by decide +kernel
set_option maxRecDepth 20000 in
theorem fl_X8_236 : Cond.fieldLink RX8 236 (TX5 4).1 (TX5 4).2.1 (TX5 4).2.2.1 ∈ TT := TT_mem 223 (by decide +kernel) rfl
set_option maxRecDepth 20000 in
theorem fl_X8_240 : Cond.fieldLink RX8 240 (TX2 0).1 (TX2 0).2.1 (TX2 0).2.2.1 ∈ TT := TT_mem 164 (by decide +kernel) rfl
set_option maxRecDepth 20000 in
theorem cd_X8_frame : Cond.code yX8_frame cX8_frame 6 (some .int) ∈ TT := TT_mem 580 (by decide +kernel) rfl
set_option maxRecDepth 20000 in
theorem dd_X8_frame : yX8_frame.cls ≠ "java/lang/invoke/MethodHandle" ∧ yX8_frame.cls ≠ "java/lang/invoke/VarHandle" ∧ (parseMethodDescriptor yX8_frame.desc).map (fun d => d.parameters.length) = some 1 := by decide +kernel
set_option maxRecDepth 20000 in
theorem cf_X8_245 : ∀ w ∈ ([.methodLink RX8 245 yX8_drawSlots, .instanceMethod yX8_drawSlots, .selects yX8_drawSlots.cls yX8_drawSlots yX8_drawSlots, .initialized yX8_drawSlots.cls] : List Cond), w ∈ TT := TT_by [581, 583, 9, 28] (by decide +kernel) rfl
set_option maxRecDepth 20000 in
theorem cf_X8_248 : ∀ w ∈ ([.methodLink RX8 248 yX2_startOne, .instanceMethod yX2_startOne, .selects yX2_startOne.cls yX2_startOne yX2_startOne, .initialized yX2_startOne.cls] : List Cond), w ∈ TT := TT_by [592, 593, 594, 34] (by decide +kernel) rfl
set_option maxRecDepth 20000 in
theorem cf_X8_251 : ∀ w ∈ ([.methodLink RX8 251 yX8_audibleOf, .instanceMethod yX8_audibleOf, .selects yX8_audibleOf.cls yX8_audibleOf yX8_audibleOf, .initialized yX8_audibleOf.cls] : List Cond), w ∈ TT := TT_by [440, 442, 4, 28] (by decide +kernel) rfl
set_option maxRecDepth 20000 in
theorem cf_X8_254 : ∀ w ∈ ([.methodLink RX8 254 yX8_kindOfSlot, .static yX8_kindOfSlot, .initialized yX8_kindOfSlot.cls] : List Cond), w ∈ TT := TT_by [444, 445, 28] (by decide +kernel) rfl
set_option maxRecDepth 20000 in
theorem cf_X8_257 : ∀ w ∈ ([.methodLink RX8 257 yX7_addSlot, .instanceMethod yX7_addSlot, .selects yX7_addSlot.cls yX7_addSlot yX7_addSlot, .initialized yX7_addSlot.cls] : List Cond), w ∈ TT := TT_by [447, 448, 449, 35] (by decide +kernel) rfl
set_option maxRecDepth 20000 in
theorem cf_X8_260 : ∀ w ∈ ([.methodLink RX8 260 yX2_note, .instanceMethod yX2_note, .selects yX2_note.cls yX2_note yX2_note, .initialized yX2_note.cls] : List Cond), w ∈ TT := TT_by [596, 597, 598, 34] (by decide +kernel) rfl
set_option maxRecDepth 20000 in
theorem cf_X8_263 : ∀ w ∈ ([.methodLink RX8 263 yX2_guessNext, .instanceMethod yX2_guessNext, .selects yX2_guessNext.cls yX2_guessNext yX2_guessNext, .initialized yX2_guessNext.cls] : List Cond), w ∈ TT := TT_by [600, 601, 602, 34] (by decide +kernel) rfl
set_option maxRecDepth 20000 in
theorem fl_X8_266 : Cond.fieldLink RX8 266 (TX2 2).1 (TX2 2).2.1 (TX2 2).2.2.1 ∈ TT := TT_mem 168 (by decide +kernel) rfl
set_option maxRecDepth 20000 in
theorem cd_X8_heard : Cond.code yX8_heard cX8_heard 2 (some .int) ∈ TT := TT_mem 612 (by decide +kernel) rfl
set_option maxRecDepth 20000 in
theorem dd_X8_heard : yX8_heard.cls ≠ "java/lang/invoke/MethodHandle" ∧ yX8_heard.cls ≠ "java/lang/invoke/VarHandle" ∧ (parseMethodDescriptor yX8_heard.desc).map (fun d => d.parameters.length) = some 1 := by decide +kernel
set_option maxRecDepth 20000 in
theorem fl_X8_269 : Cond.fieldLink RX8 269 (TX2 1).1 (TX2 1).2.1 (TX2 1).2.2.1 ∈ TT := TT_mem 166 (by decide +kernel) rfl
set_option maxRecDepth 20000 in
theorem fl_X8_272 : Cond.fieldLink RX8 272 (TX2 3).1 (TX2 3).2.1 (TX2 3).2.2.1 ∈ TT := TT_mem 170 (by decide +kernel) rfl
set_option maxRecDepth 20000 in
theorem fl_X8_275 : Cond.fieldLink RX8 275 (TX2 4).1 (TX2 4).2.1 (TX2 4).2.2.1 ∈ TT := TT_mem 172 (by decide +kernel) rfl
set_option maxRecDepth 20000 in
theorem cd_X8_found : Cond.code yX8_found cX8_found 2 (some .int) ∈ TT := TT_mem 616 (by decide +kernel) rfl
set_option maxRecDepth 20000 in
theorem dd_X8_found : yX8_found.cls ≠ "java/lang/invoke/MethodHandle" ∧ yX8_found.cls ≠ "java/lang/invoke/VarHandle" ∧ (parseMethodDescriptor yX8_found.desc).map (fun d => d.parameters.length) = some 1 := by decide +kernel
set_option maxRecDepth 20000 in
theorem cf_X8_278 : ∀ w ∈ ([.methodLink RX8 278 yX7_foundAt, .instanceMethod yX7_foundAt, .selects yX7_foundAt.cls yX7_foundAt yX7_foundAt, .initialized yX7_foundAt.cls] : List Cond), w ∈ TT := TT_by [617, 618, 619, 35] (by decide +kernel) rfl
set_option maxRecDepth 20000 in
theorem cd_X8_cost : Cond.code yX8_cost cX8_cost 2 (some .int) ∈ TT := TT_mem 624 (by decide +kernel) rfl
set_option maxRecDepth 20000 in
theorem dd_X8_cost : yX8_cost.cls ≠ "java/lang/invoke/MethodHandle" ∧ yX8_cost.cls ≠ "java/lang/invoke/VarHandle" ∧ (parseMethodDescriptor yX8_cost.desc).map (fun d => d.parameters.length) = some 1 := by decide +kernel
set_option maxRecDepth 20000 in
theorem fl_X8_281 : Cond.fieldLink RX8 281 (TX7 2).1 (TX7 2).2.1 (TX7 2).2.2.1 ∈ TT := TT_mem 194 (by decide +kernel) rfl
set_option maxRecDepth 20000 in
theorem fl_X8_284 : Cond.fieldLink RX8 284 (TX7 3).1 (TX7 3).2.1 (TX7 3).2.2.1 ∈ TT := TT_mem 196 (by decide +kernel) rfl
set_option maxRecDepth 20000 in
theorem fl_X8_287 : Cond.fieldLink RX8 287 (TX7 4).1 (TX7 4).2.1 (TX7 4).2.2.1 ∈ TT := TT_mem 198 (by decide +kernel) rfl
set_option maxRecDepth 20000 in
theorem fl_X8_290 : Cond.fieldLink RX8 290 (TX7 5).1 (TX7 5).2.1 (TX7 5).2.2.1 ∈ TT := TT_mem 200 (by decide +kernel) rfl
set_option maxRecDepth 20000 in
theorem cf_X8_293 : ∀ w ∈ ([.methodLink RX8 293 yX7_allSlots, .instanceMethod yX7_allSlots, .selects yX7_allSlots.cls yX7_allSlots yX7_allSlots, .initialized yX7_allSlots.cls] : List Cond), w ∈ TT := TT_by [625, 626, 627, 35] (by decide +kernel) rfl
set_option maxRecDepth 20000 in
theorem cd_X8_count : Cond.code yX8_count cX8_count 2 (some .int) ∈ TT := TT_mem 632 (by decide +kernel) rfl
set_option maxRecDepth 20000 in
theorem dd_X8_count : yX8_count.cls ≠ "java/lang/invoke/MethodHandle" ∧ yX8_count.cls ≠ "java/lang/invoke/VarHandle" ∧ (parseMethodDescriptor yX8_count.desc).map (fun d => d.parameters.length) = some 1 := by decide +kernel
set_option maxRecDepth 20000 in
theorem fl_X8_296 : Cond.fieldLink RX8 296 (TX6 5).1 (TX6 5).2.1 (TX6 5).2.2.1 ∈ TT := TT_mem 72 (by decide +kernel) rfl
set_option maxRecDepth 20000 in
theorem fl_X8_297 : Cond.fieldLink RX8 297 (TX7 1).1 (TX7 1).2.1 (TX7 1).2.2.1 ∈ TT := TT_mem 192 (by decide +kernel) rfl
set_option maxRecDepth 20000 in
theorem fl_X8_300 : Cond.fieldLink RX8 300 (TX0 2).1 (TX0 2).2.1 (TX0 2).2.2.1 ∈ TT := TT_mem 149 (by decide +kernel) rfl
set_option maxRecDepth 20000 in
theorem cd_X8_image : Cond.code yX8_image cX8_image 3 (some .boolean) ∈ TT := TT_mem 636 (by decide +kernel) rfl
set_option maxRecDepth 20000 in
theorem dd_X8_image : yX8_image.cls ≠ "java/lang/invoke/MethodHandle" ∧ yX8_image.cls ≠ "java/lang/invoke/VarHandle" ∧ (parseMethodDescriptor yX8_image.desc).map (fun d => d.parameters.length) = some 1 := by decide +kernel
set_option maxRecDepth 20000 in
theorem cf_X8_303 : ∀ w ∈ ([.methodLink RX8 303 yX5_copyFrom, .instanceMethod yX5_copyFrom, .selects yX5_copyFrom.cls yX5_copyFrom yX5_copyFrom, .initialized yX5_copyFrom.cls] : List Cond), w ∈ TT := TT_by [637, 638, 639, 29] (by decide +kernel) rfl
set_option maxRecDepth 20000 in
theorem cd_X8_again : Cond.code yX8_again cX8_again 3 (some .boolean) ∈ TT := TT_mem 672 (by decide +kernel) rfl
set_option maxRecDepth 20000 in
theorem dd_X8_again : yX8_again.cls ≠ "java/lang/invoke/MethodHandle" ∧ yX8_again.cls ≠ "java/lang/invoke/VarHandle" ∧ (parseMethodDescriptor yX8_again.desc).map (fun d => d.parameters.length) = some 1 := by decide +kernel
set_option maxRecDepth 20000 in
theorem cd_X8_hearSlot : Cond.code yX8_hearSlot cX8_hearSlot 6 (some .int) ∈ TT := TT_mem 439 (by decide +kernel) rfl
set_option maxRecDepth 20000 in
theorem dd_X8_hearSlot : yX8_hearSlot.cls ≠ "java/lang/invoke/MethodHandle" ∧ yX8_hearSlot.cls ≠ "java/lang/invoke/VarHandle" ∧ (parseMethodDescriptor yX8_hearSlot.desc).map (fun d => d.parameters.length) = some 1 := by decide +kernel
set_option maxRecDepth 20000 in
theorem cd_X8_audibleOf : Cond.code yX8_audibleOf cX8_audibleOf 6 (some .long) ∈ TT := TT_mem 443 (by decide +kernel) rfl
set_option maxRecDepth 20000 in
theorem dd_X8_audibleOf : yX8_audibleOf.cls ≠ "java/lang/invoke/MethodHandle" ∧ yX8_audibleOf.cls ≠ "java/lang/invoke/VarHandle" ∧ (parseMethodDescriptor yX8_audibleOf.desc).map (fun d => d.parameters.length) = some 1 := by decide +kernel
set_option maxRecDepth 20000 in
theorem fl_X8_307 : Cond.fieldLink RX8 307 (TX6 4).1 (TX6 4).2.1 (TX6 4).2.2.1 ∈ TT := TT_mem 70 (by decide +kernel) rfl
set_option maxRecDepth 20000 in
theorem cd_X8_admitCrowd : Cond.code yX8_admitCrowd cX8_admitCrowd 3 none ∈ TT := TT_mem 495 (by decide +kernel) rfl
set_option maxRecDepth 20000 in
theorem dd_X8_admitCrowd : yX8_admitCrowd.cls ≠ "java/lang/invoke/MethodHandle" ∧ yX8_admitCrowd.cls ≠ "java/lang/invoke/VarHandle" ∧ (parseMethodDescriptor yX8_admitCrowd.desc).map (fun d => d.parameters.length) = some 1 := by decide +kernel
set_option maxRecDepth 20000 in
theorem cf_X8_310 : ∀ w ∈ ([.methodLink RX8 310 yX1_admit, .instanceMethod yX1_admit, .selects yX1_admit.cls yX1_admit yX1_admit, .initialized yX1_admit.cls] : List Cond), w ∈ TT := TT_by [496, 497, 498, 36] (by decide +kernel) rfl
set_option maxRecDepth 20000 in
theorem cd_X8_findAndTire : Cond.code yX8_findAndTire cX8_findAndTire 2 none ∈ TT := TT_mem 568 (by decide +kernel) rfl
set_option maxRecDepth 20000 in
theorem dd_X8_findAndTire : yX8_findAndTire.cls ≠ "java/lang/invoke/MethodHandle" ∧ yX8_findAndTire.cls ≠ "java/lang/invoke/VarHandle" ∧ (parseMethodDescriptor yX8_findAndTire.desc).map (fun d => d.parameters.length) = some 1 := by decide +kernel
set_option maxRecDepth 20000 in
theorem cf_X8_313 : ∀ w ∈ ([.methodLink RX8 313 yX6_tire, .instanceMethod yX6_tire, .selects yX6_tire.cls yX6_tire yX6_tire, .initialized yX6_tire.cls] : List Cond), w ∈ TT := TT_by [569, 570, 571, 30] (by decide +kernel) rfl
set_option maxRecDepth 20000 in
theorem cd_X8_drawCounters : Cond.code yX8_drawCounters cX8_drawCounters 4 none ∈ TT := TT_mem 549 (by decide +kernel) rfl
set_option maxRecDepth 20000 in
theorem dd_X8_drawCounters : yX8_drawCounters.cls ≠ "java/lang/invoke/MethodHandle" ∧ yX8_drawCounters.cls ≠ "java/lang/invoke/VarHandle" ∧ (parseMethodDescriptor yX8_drawCounters.desc).map (fun d => d.parameters.length) = some 1 := by decide +kernel
set_option maxRecDepth 20000 in
theorem cf_X8_316 : ∀ w ∈ ([.methodLink RX8 316 yX6_draw, .instanceMethod yX6_draw, .selects yX6_draw.cls yX6_draw yX6_draw, .initialized yX6_draw.cls] : List Cond), w ∈ TT := TT_by [550, 551, 552, 30] (by decide +kernel) rfl
set_option maxRecDepth 20000 in
theorem cf_X8_320 : ∀ w ∈ ([.methodLink RX8 320 yX0_put, .instanceMethod yX0_put, .selects yX0_put.cls yX0_put yX0_put, .initialized yX0_put.cls] : List Cond), w ∈ TT := TT_by [556, 557, 558, 33] (by decide +kernel) rfl
set_option maxRecDepth 20000 in
theorem cd_X8_drawSlots : Cond.code yX8_drawSlots cX8_drawSlots 6 none ∈ TT := TT_mem 584 (by decide +kernel) rfl
set_option maxRecDepth 20000 in
theorem dd_X8_drawSlots : yX8_drawSlots.cls ≠ "java/lang/invoke/MethodHandle" ∧ yX8_drawSlots.cls ≠ "java/lang/invoke/VarHandle" ∧ (parseMethodDescriptor yX8_drawSlots.desc).map (fun d => d.parameters.length) = some 1 := by decide +kernel
set_option maxRecDepth 20000 in
theorem cf_X8_324 : ∀ w ∈ ([.methodLink RX8 324 yJ7_fill_d0a16, .static yJ7_fill_d0a16, .initialized yJ7_fill_d0a16.cls] : List Cond), w ∈ TT := TT_by [585, 586, 40] (by decide +kernel) rfl
set_option maxRecDepth 20000 in
theorem cf_X8_330 : ∀ w ∈ ([.methodLink RX8 330 yX6_slotted, .instanceMethod yX6_slotted, .selects yX6_slotted.cls yX6_slotted yX6_slotted, .initialized yX6_slotted.cls] : List Cond), w ∈ TT := TT_by [588, 589, 590, 30] (by decide +kernel) rfl
set_option maxRecDepth 20000 in
theorem cf_X8_333 : ∀ w ∈ ([.methodLink RX8 333 yX8_setOf, .static yX8_setOf, .initialized yX8_setOf.cls] : List Cond), w ∈ TT := TT_by [335, 304, 28] (by decide +kernel) rfl
set_option maxRecDepth 20000 in
theorem cd_X8_kindOfSlot : Cond.code yX8_kindOfSlot cX8_kindOfSlot 2 (some .int) ∈ TT := TT_mem 446 (by decide +kernel) rfl
set_option maxRecDepth 20000 in
theorem dd_X8_kindOfSlot : yX8_kindOfSlot.cls ≠ "java/lang/invoke/MethodHandle" ∧ yX8_kindOfSlot.cls ≠ "java/lang/invoke/VarHandle" ∧ (parseMethodDescriptor yX8_kindOfSlot.desc).map (fun d => d.parameters.length) = some 1 := by decide +kernel
set_option maxRecDepth 20000 in
theorem cd_X8_setOf : Cond.code yX8_setOf cX8_setOf 1 (some .long) ∈ TT := TT_mem 305 (by decide +kernel) rfl
set_option maxRecDepth 20000 in
theorem dd_X8_setOf : yX8_setOf.cls ≠ "java/lang/invoke/MethodHandle" ∧ yX8_setOf.cls ≠ "java/lang/invoke/VarHandle" ∧ (parseMethodDescriptor yX8_setOf.desc).map (fun d => d.parameters.length) = some 1 := by decide +kernel
set_option maxRecDepth 20000 in
theorem cd_X8_isIn : Cond.code yX8_isIn cX8_isIn 3 (some .boolean) ∈ TT := TT_mem 334 (by decide +kernel) rfl
set_option maxRecDepth 20000 in
theorem dd_X8_isIn : yX8_isIn.cls ≠ "java/lang/invoke/MethodHandle" ∧ yX8_isIn.cls ≠ "java/lang/invoke/VarHandle" ∧ (parseMethodDescriptor yX8_isIn.desc).map (fun d => d.parameters.length) = some 2 := by decide +kernel
set_option maxRecDepth 20000 in
theorem cd_X8_firstOf : Cond.code yX8_firstOf cX8_firstOf 2 (some .int) ∈ TT := TT_mem 399 (by decide +kernel) rfl
set_option maxRecDepth 20000 in
theorem dd_X8_firstOf : yX8_firstOf.cls ≠ "java/lang/invoke/MethodHandle" ∧ yX8_firstOf.cls ≠ "java/lang/invoke/VarHandle" ∧ (parseMethodDescriptor yX8_firstOf.desc).map (fun d => d.parameters.length) = some 1 := by decide +kernel
set_option maxRecDepth 20000 in
theorem cd_X8_oneIf : Cond.code yX8_oneIf cX8_oneIf 1 (some .int) ∈ TT := TT_mem 338 (by decide +kernel) rfl
set_option maxRecDepth 20000 in
theorem dd_X8_oneIf : yX8_oneIf.cls ≠ "java/lang/invoke/MethodHandle" ∧ yX8_oneIf.cls ≠ "java/lang/invoke/VarHandle" ∧ (parseMethodDescriptor yX8_oneIf.desc).map (fun d => d.parameters.length) = some 1 := by decide +kernel
set_option maxRecDepth 20000 in
theorem cd_X8_isOneAt : Cond.code yX8_isOneAt cX8_isOneAt 3 (some .boolean) ∈ TT := TT_mem 294 (by decide +kernel) rfl
set_option maxRecDepth 20000 in
theorem dd_X8_isOneAt : yX8_isOneAt.cls ≠ "java/lang/invoke/MethodHandle" ∧ yX8_isOneAt.cls ≠ "java/lang/invoke/VarHandle" ∧ (parseMethodDescriptor yX8_isOneAt.desc).map (fun d => d.parameters.length) = some 2 := by decide +kernel
set_option maxRecDepth 20000 in
theorem cd_X8_sumOf : Cond.code yX8_sumOf cX8_sumOf 5 (some .int) ∈ TT := TT_mem 291 (by decide +kernel) rfl
set_option maxRecDepth 20000 in
theorem dd_X8_sumOf : yX8_sumOf.cls ≠ "java/lang/invoke/MethodHandle" ∧ yX8_sumOf.cls ≠ "java/lang/invoke/VarHandle" ∧ (parseMethodDescriptor yX8_sumOf.desc).map (fun d => d.parameters.length) = some 1 := by decide +kernel
set_option maxRecDepth 20000 in
theorem cd_X9_init : Cond.code yX9_init cX9_init 1 none ∈ TT := TT_mem 677 (by decide +kernel) rfl
set_option maxRecDepth 20000 in
theorem dd_X9_init : yX9_init.cls ≠ "java/lang/invoke/MethodHandle" ∧ yX9_init.cls ≠ "java/lang/invoke/VarHandle" ∧ (parseMethodDescriptor yX9_init.desc).map (fun d => d.parameters.length) = some 0 := by decide +kernel
set_option maxRecDepth 20000 in
theorem cf_X9_1 : ∀ w ∈ ([.methodLink RX9 1 objectInit, .instanceMethod objectInit, .code objectInit ⟨#[0xb1]⟩ 1 none] : List Cond), w ∈ TT := TT_by [678, 48, 49] (by decide +kernel) rfl
set_option maxRecDepth 20000 in
theorem fl_X9_7 : Cond.fieldLink RX9 7 (TX9 0).1 (TX9 0).2.1 (TX9 0).2.2.1 ∈ TT := TT_mem 679 (by decide +kernel) rfl
set_option maxRecDepth 20000 in
theorem fl_X9_13 : Cond.fieldLink RX9 13 (TX9 1).1 (TX9 1).2.1 (TX9 1).2.2.1 ∈ TT := TT_mem 680 (by decide +kernel) rfl
set_option maxRecDepth 20000 in
theorem fl_X9_17 : Cond.fieldLink RX9 17 (TX9 2).1 (TX9 2).2.1 (TX9 2).2.2.1 ∈ TT := TT_mem 681 (by decide +kernel) rfl
set_option maxRecDepth 20000 in
theorem fl_X9_21 : Cond.fieldLink RX9 21 (TX9 3).1 (TX9 3).2.1 (TX9 3).2.2.1 ∈ TT := TT_mem 682 (by decide +kernel) rfl
set_option maxRecDepth 20000 in
theorem fl_X9_24 : Cond.fieldLink RX9 24 (TX9 4).1 (TX9 4).2.1 (TX9 4).2.2.1 ∈ TT := TT_mem 683 (by decide +kernel) rfl
set_option maxRecDepth 20000 in
theorem fl_X9_27 : Cond.fieldLink RX9 27 (TX9 6).1 (TX9 6).2.1 (TX9 6).2.2.1 ∈ TT := TT_mem 685 (by decide +kernel) rfl
set_option maxRecDepth 20000 in
theorem fl_X9_30 : Cond.fieldLink RX9 30 (TX9 7).1 (TX9 7).2.1 (TX9 7).2.2.1 ∈ TT := TT_mem 686 (by decide +kernel) rfl
set_option maxRecDepth 20000 in
theorem fl_X9_33 : Cond.fieldLink RX9 33 (TX9 8).1 (TX9 8).2.1 (TX9 8).2.2.1 ∈ TT := TT_mem 687 (by decide +kernel) rfl
set_option maxRecDepth 20000 in
theorem cd_X9_isIn : Cond.code yX9_isIn cX9_isIn 2 (some .boolean) ∈ TT := TT_mem 714 (by decide +kernel) rfl
set_option maxRecDepth 20000 in
theorem dd_X9_isIn : yX9_isIn.cls ≠ "java/lang/invoke/MethodHandle" ∧ yX9_isIn.cls ≠ "java/lang/invoke/VarHandle" ∧ (parseMethodDescriptor yX9_isIn.desc).map (fun d => d.parameters.length) = some 2 := by decide +kernel
set_option maxRecDepth 20000 in
theorem cd_X9_isTag : Cond.code yX9_isTag cX9_isTag 2 (some .boolean) ∈ TT := TT_mem 736 (by decide +kernel) rfl
set_option maxRecDepth 20000 in
theorem dd_X9_isTag : yX9_isTag.cls ≠ "java/lang/invoke/MethodHandle" ∧ yX9_isTag.cls ≠ "java/lang/invoke/VarHandle" ∧ (parseMethodDescriptor yX9_isTag.desc).map (fun d => d.parameters.length) = some 1 := by decide +kernel
set_option maxRecDepth 20000 in
theorem cf_X9_36 : ∀ w ∈ ([.methodLink RX9 36 yX9_isIn, .static yX9_isIn, .initialized yX9_isIn.cls] : List Cond), w ∈ TT := TT_by [712, 713, 37] (by decide +kernel) rfl
set_option maxRecDepth 20000 in
theorem cd_X9_of : Cond.code yX9_of cX9_of 3 (some .int) ∈ TT := TT_mem 749 (by decide +kernel) rfl
set_option maxRecDepth 20000 in
theorem dd_X9_of : yX9_of.cls ≠ "java/lang/invoke/MethodHandle" ∧ yX9_of.cls ≠ "java/lang/invoke/VarHandle" ∧ (parseMethodDescriptor yX9_of.desc).map (fun d => d.parameters.length) = some 2 := by decide +kernel
set_option maxRecDepth 20000 in
theorem cd_X9_sets : Cond.code yX9_sets cX9_sets 4 none ∈ TT := TT_mem 728 (by decide +kernel) rfl
set_option maxRecDepth 20000 in
theorem dd_X9_sets : yX9_sets.cls ≠ "java/lang/invoke/MethodHandle" ∧ yX9_sets.cls ≠ "java/lang/invoke/VarHandle" ∧ (parseMethodDescriptor yX9_sets.desc).map (fun d => d.parameters.length) = some 3 := by decide +kernel
set_option maxRecDepth 20000 in
theorem cd_X9_bitOf : Cond.code yX9_bitOf cX9_bitOf 3 (some .int) ∈ TT := TT_mem 724 (by decide +kernel) rfl
set_option maxRecDepth 20000 in
theorem dd_X9_bitOf : yX9_bitOf.cls ≠ "java/lang/invoke/MethodHandle" ∧ yX9_bitOf.cls ≠ "java/lang/invoke/VarHandle" ∧ (parseMethodDescriptor yX9_bitOf.desc).map (fun d => d.parameters.length) = some 2 := by decide +kernel
set_option maxRecDepth 20000 in
theorem cd_X9_sumOf : Cond.code yX9_sumOf cX9_sumOf 5 (some .int) ∈ TT := TT_mem 721 (by decide +kernel) rfl
set_option maxRecDepth 20000 in
theorem dd_X9_sumOf : yX9_sumOf.cls ≠ "java/lang/invoke/MethodHandle" ∧ yX9_sumOf.cls ≠ "java/lang/invoke/VarHandle" ∧ (parseMethodDescriptor yX9_sumOf.desc).map (fun d => d.parameters.length) = some 1 := by decide +kernel
set_option maxRecDepth 20000 in
theorem cf_X9_40 : ∀ w ∈ ([.methodLink RX9 40 yX9_bitOf, .static yX9_bitOf, .initialized yX9_bitOf.cls] : List Cond), w ∈ TT := TT_by [722, 723, 37] (by decide +kernel) rfl
set_option maxRecDepth 20000 in
theorem cd_X9_listens : Cond.code yX9_listens cX9_listens 2 (some .boolean) ∈ TT := TT_mem 753 (by decide +kernel) rfl
set_option maxRecDepth 20000 in
theorem dd_X9_listens : yX9_listens.cls ≠ "java/lang/invoke/MethodHandle" ∧ yX9_listens.cls ≠ "java/lang/invoke/VarHandle" ∧ (parseMethodDescriptor yX9_listens.desc).map (fun d => d.parameters.length) = some 1 := by decide +kernel
set_option maxRecDepth 20000 in
theorem cf_X9_44 : ∀ w ∈ ([.methodLink RX9 44 yX9_of, .instanceMethod yX9_of, .selects yX9_of.cls yX9_of yX9_of, .initialized yX9_of.cls] : List Cond), w ∈ TT := TT_by [746, 748, 12, 37] (by decide +kernel) rfl
set_option maxRecDepth 20000 in
theorem cd_X9_wire : Cond.code yX9_wire cX9_wire 2 (some .boolean) ∈ TT := TT_mem 711 (by decide +kernel) rfl
set_option maxRecDepth 20000 in
theorem dd_X9_wire : yX9_wire.cls ≠ "java/lang/invoke/MethodHandle" ∧ yX9_wire.cls ≠ "java/lang/invoke/VarHandle" ∧ (parseMethodDescriptor yX9_wire.desc).map (fun d => d.parameters.length) = some 1 := by decide +kernel
set_option maxRecDepth 20000 in
theorem cd_X9_tag : Cond.code yX9_tag cX9_tag 8 (some .int) ∈ TT := TT_mem 718 (by decide +kernel) rfl
set_option maxRecDepth 20000 in
theorem dd_X9_tag : yX9_tag.cls ≠ "java/lang/invoke/MethodHandle" ∧ yX9_tag.cls ≠ "java/lang/invoke/VarHandle" ∧ (parseMethodDescriptor yX9_tag.desc).map (fun d => d.parameters.length) = some 3 := by decide +kernel
set_option maxRecDepth 20000 in
theorem cf_X9_48 : ∀ w ∈ ([.methodLink RX9 48 yX9_sumOf, .static yX9_sumOf, .initialized yX9_sumOf.cls] : List Cond), w ∈ TT := TT_by [719, 720, 37] (by decide +kernel) rfl
set_option maxRecDepth 20000 in
theorem cf_X9_52 : ∀ w ∈ ([.methodLink RX9 52 yX9_sets, .instanceMethod yX9_sets, .selects yX9_sets.cls yX9_sets yX9_sets, .initialized yX9_sets.cls] : List Cond), w ∈ TT := TT_by [725, 727, 10, 37] (by decide +kernel) rfl
set_option maxRecDepth 20000 in
theorem cd_X9_name : Cond.code yX9_name cX9_name 2 (some .long) ∈ TT := TT_mem 732 (by decide +kernel) rfl
set_option maxRecDepth 20000 in
theorem dd_X9_name : yX9_name.cls ≠ "java/lang/invoke/MethodHandle" ∧ yX9_name.cls ≠ "java/lang/invoke/VarHandle" ∧ (parseMethodDescriptor yX9_name.desc).map (fun d => d.parameters.length) = some 1 := by decide +kernel
set_option maxRecDepth 20000 in
theorem cf_X9_56 : ∀ w ∈ ([.methodLink RX9 56 yX9_isTag, .instanceMethod yX9_isTag, .selects yX9_isTag.cls yX9_isTag yX9_isTag, .initialized yX9_isTag.cls] : List Cond), w ∈ TT := TT_by [733, 735, 11, 37] (by decide +kernel) rfl
set_option maxRecDepth 20000 in
theorem cd_X9_isName : Cond.code yX9_isName cX9_isName 3 (some .boolean) ∈ TT := TT_mem 740 (by decide +kernel) rfl
set_option maxRecDepth 20000 in
theorem dd_X9_isName : yX9_isName.cls ≠ "java/lang/invoke/MethodHandle" ∧ yX9_isName.cls ≠ "java/lang/invoke/VarHandle" ∧ (parseMethodDescriptor yX9_isName.desc).map (fun d => d.parameters.length) = some 1 := by decide +kernel
set_option maxRecDepth 20000 in
theorem ld_X9_60 : Cond.constantLong RX9 60 (255) ∈ TT := TT_mem 741 (by decide +kernel) rfl
set_option maxRecDepth 20000 in
theorem cd_X9_tell : Cond.code yX9_tell cX9_tell 5 (some .int) ∈ TT := TT_mem 745 (by decide +kernel) rfl
set_option maxRecDepth 20000 in
theorem dd_X9_tell : yX9_tell.cls ≠ "java/lang/invoke/MethodHandle" ∧ yX9_tell.cls ≠ "java/lang/invoke/VarHandle" ∧ (parseMethodDescriptor yX9_tell.desc).map (fun d => d.parameters.length) = some 2 := by decide +kernel
set_option maxRecDepth 20000 in
theorem cf_X9_62 : ∀ w ∈ ([.methodLink RX9 62 yX9_listens, .instanceMethod yX9_listens, .selects yX9_listens.cls yX9_listens yX9_listens, .initialized yX9_listens.cls] : List Cond), w ∈ TT := TT_by [750, 752, 13, 37] (by decide +kernel) rfl
set_option maxRecDepth 20000 in
theorem cd_X9_act : Cond.code yX9_act cX9_act 5 (some .boolean) ∈ TT := TT_mem 757 (by decide +kernel) rfl
set_option maxRecDepth 20000 in
theorem dd_X9_act : yX9_act.cls ≠ "java/lang/invoke/MethodHandle" ∧ yX9_act.cls ≠ "java/lang/invoke/VarHandle" ∧ (parseMethodDescriptor yX9_act.desc).map (fun d => d.parameters.length) = some 2 := by decide +kernel
set_option maxRecDepth 20000 in
theorem cd_X9_listening : Cond.code yX9_listening cX9_listening 3 (some .int) ∈ TT := TT_mem 765 (by decide +kernel) rfl
set_option maxRecDepth 20000 in
theorem dd_X9_listening : yX9_listening.cls ≠ "java/lang/invoke/MethodHandle" ∧ yX9_listening.cls ≠ "java/lang/invoke/VarHandle" ∧ (parseMethodDescriptor yX9_listening.desc).map (fun d => d.parameters.length) = some 0 := by decide +kernel
set_option maxRecDepth 20000 in
theorem cd_X9_group : Cond.code yX9_group cX9_group 5 (some .int) ∈ TT := TT_mem 761 (by decide +kernel) rfl
set_option maxRecDepth 20000 in
theorem dd_X9_group : yX9_group.cls ≠ "java/lang/invoke/MethodHandle" ∧ yX9_group.cls ≠ "java/lang/invoke/VarHandle" ∧ (parseMethodDescriptor yX9_group.desc).map (fun d => d.parameters.length) = some 2 := by decide +kernel
set_option maxRecDepth 20000 in
theorem cf_X9_65 : ∀ w ∈ ([.methodLink RX9 65 yX9_listening, .instanceMethod yX9_listening, .selects yX9_listening.cls yX9_listening yX9_listening, .initialized yX9_listening.cls] : List Cond), w ∈ TT := TT_by [762, 764, 14, 37] (by decide +kernel) rfl
set_option maxRecDepth 20000 in
theorem cd_X9_finds : Cond.code yX9_finds cX9_finds 2 none ∈ TT := TT_mem 789 (by decide +kernel) rfl
set_option maxRecDepth 20000 in
theorem dd_X9_finds : yX9_finds.cls ≠ "java/lang/invoke/MethodHandle" ∧ yX9_finds.cls ≠ "java/lang/invoke/VarHandle" ∧ (parseMethodDescriptor yX9_finds.desc).map (fun d => d.parameters.length) = some 1 := by decide +kernel
set_option maxRecDepth 20000 in
theorem cd_X9_allIn : Cond.code yX9_allIn cX9_allIn 2 none ∈ TT := TT_mem 773 (by decide +kernel) rfl
set_option maxRecDepth 20000 in
theorem dd_X9_allIn : yX9_allIn.cls ≠ "java/lang/invoke/MethodHandle" ∧ yX9_allIn.cls ≠ "java/lang/invoke/VarHandle" ∧ (parseMethodDescriptor yX9_allIn.desc).map (fun d => d.parameters.length) = some 0 := by decide +kernel
set_option maxRecDepth 20000 in
theorem cd_X9_tellers : Cond.code yX9_tellers cX9_tellers 5 (some .int) ∈ TT := TT_mem 781 (by decide +kernel) rfl
set_option maxRecDepth 20000 in
theorem dd_X9_tellers : yX9_tellers.cls ≠ "java/lang/invoke/MethodHandle" ∧ yX9_tellers.cls ≠ "java/lang/invoke/VarHandle" ∧ (parseMethodDescriptor yX9_tellers.desc).map (fun d => d.parameters.length) = some 2 := by decide +kernel
set_option maxRecDepth 20000 in
theorem cd_X9_goesOn : Cond.code yX9_goesOn cX9_goesOn 4 none ∈ TT := TT_mem 785 (by decide +kernel) rfl
set_option maxRecDepth 20000 in
theorem dd_X9_goesOn : yX9_goesOn.cls ≠ "java/lang/invoke/MethodHandle" ∧ yX9_goesOn.cls ≠ "java/lang/invoke/VarHandle" ∧ (parseMethodDescriptor yX9_goesOn.desc).map (fun d => d.parameters.length) = some 2 := by decide +kernel
set_option maxRecDepth 20000 in
theorem cd_X9_oneIn : Cond.code yX9_oneIn cX9_oneIn 3 (some .int) ∈ TT := TT_mem 777 (by decide +kernel) rfl
set_option maxRecDepth 20000 in
theorem dd_X9_oneIn : yX9_oneIn.cls ≠ "java/lang/invoke/MethodHandle" ∧ yX9_oneIn.cls ≠ "java/lang/invoke/VarHandle" ∧ (parseMethodDescriptor yX9_oneIn.desc).map (fun d => d.parameters.length) = some 0 := by decide +kernel
set_option maxRecDepth 20000 in
theorem cd_X9_pass : Cond.code yX9_pass cX9_pass 5 (some .int) ∈ TT := TT_mem 769 (by decide +kernel) rfl
set_option maxRecDepth 20000 in
theorem dd_X9_pass : yX9_pass.cls ≠ "java/lang/invoke/MethodHandle" ∧ yX9_pass.cls ≠ "java/lang/invoke/VarHandle" ∧ (parseMethodDescriptor yX9_pass.desc).map (fun d => d.parameters.length) = some 0 := by decide +kernel
set_option maxRecDepth 20000 in
theorem cf_X9_69 : ∀ w ∈ ([.methodLink RX9 69 yX9_allIn, .instanceMethod yX9_allIn, .selects yX9_allIn.cls yX9_allIn yX9_allIn, .initialized yX9_allIn.cls] : List Cond), w ∈ TT := TT_by [770, 772, 15, 37] (by decide +kernel) rfl
set_option maxRecDepth 20000 in
theorem cf_X9_72 : ∀ w ∈ ([.methodLink RX9 72 yX9_oneIn, .instanceMethod yX9_oneIn, .selects yX9_oneIn.cls yX9_oneIn yX9_oneIn, .initialized yX9_oneIn.cls] : List Cond), w ∈ TT := TT_by [774, 776, 16, 37] (by decide +kernel) rfl
set_option maxRecDepth 20000 in
theorem cf_X9_75 : ∀ w ∈ ([.methodLink RX9 75 yX9_tellers, .instanceMethod yX9_tellers, .selects yX9_tellers.cls yX9_tellers yX9_tellers, .initialized yX9_tellers.cls] : List Cond), w ∈ TT := TT_by [778, 780, 17, 37] (by decide +kernel) rfl
set_option maxRecDepth 20000 in
theorem cf_X9_78 : ∀ w ∈ ([.methodLink RX9 78 yX9_goesOn, .instanceMethod yX9_goesOn, .selects yX9_goesOn.cls yX9_goesOn yX9_goesOn, .initialized yX9_goesOn.cls] : List Cond), w ∈ TT := TT_by [782, 784, 18, 37] (by decide +kernel) rfl
set_option maxRecDepth 20000 in
theorem cf_X9_82 : ∀ w ∈ ([.methodLink RX9 82 yX9_finds, .instanceMethod yX9_finds, .selects yX9_finds.cls yX9_finds yX9_finds, .initialized yX9_finds.cls] : List Cond), w ∈ TT := TT_by [786, 788, 19, 37] (by decide +kernel) rfl
set_option maxRecDepth 20000 in
theorem cd_X9_fork : Cond.code yX9_fork cX9_fork 2 (some .int) ∈ TT := TT_mem 793 (by decide +kernel) rfl
set_option maxRecDepth 20000 in
theorem dd_X9_fork : yX9_fork.cls ≠ "java/lang/invoke/MethodHandle" ∧ yX9_fork.cls ≠ "java/lang/invoke/VarHandle" ∧ (parseMethodDescriptor yX9_fork.desc).map (fun d => d.parameters.length) = some 1 := by decide +kernel
set_option maxRecDepth 20000 in
theorem cd_X9_verify : Cond.code yX9_verify cX9_verify 4 (some .boolean) ∈ TT := TT_mem 797 (by decide +kernel) rfl
set_option maxRecDepth 20000 in
theorem dd_X9_verify : yX9_verify.cls ≠ "java/lang/invoke/MethodHandle" ∧ yX9_verify.cls ≠ "java/lang/invoke/VarHandle" ∧ (parseMethodDescriptor yX9_verify.desc).map (fun d => d.parameters.length) = some 1 := by decide +kernel
set_option maxRecDepth 20000 in
theorem cd_X9_slot : Cond.code yX9_slot cX9_slot 5 (some .int) ∈ TT := TT_mem 816 (by decide +kernel) rfl
set_option maxRecDepth 20000 in
theorem dd_X9_slot : yX9_slot.cls ≠ "java/lang/invoke/MethodHandle" ∧ yX9_slot.cls ≠ "java/lang/invoke/VarHandle" ∧ (parseMethodDescriptor yX9_slot.desc).map (fun d => d.parameters.length) = some 0 := by decide +kernel
set_option maxRecDepth 20000 in
theorem fl_X9_86 : Cond.fieldLink RX9 86 (TX9 5).1 (TX9 5).2.1 (TX9 5).2.2.1 ∈ TT := TT_mem 684 (by decide +kernel) rfl
set_option maxRecDepth 20000 in
theorem cd_X9_counted : Cond.code yX9_counted cX9_counted 2 (some .int) ∈ TT := TT_mem 812 (by decide +kernel) rfl
set_option maxRecDepth 20000 in
theorem dd_X9_counted : yX9_counted.cls ≠ "java/lang/invoke/MethodHandle" ∧ yX9_counted.cls ≠ "java/lang/invoke/VarHandle" ∧ (parseMethodDescriptor yX9_counted.desc).map (fun d => d.parameters.length) = some 0 := by decide +kernel
set_option maxRecDepth 20000 in
theorem cf_X9_90 : ∀ w ∈ ([.methodLink RX9 90 yX9_slot, .instanceMethod yX9_slot, .selects yX9_slot.cls yX9_slot yX9_slot, .initialized yX9_slot.cls] : List Cond), w ∈ TT := TT_by [813, 815, 22, 37] (by decide +kernel) rfl
set_option maxRecDepth 20000 in
theorem cd_X9_begins : Cond.code yX9_begins cX9_begins 5 (some .boolean) ∈ TT := TT_mem 808 (by decide +kernel) rfl
set_option maxRecDepth 20000 in
theorem dd_X9_begins : yX9_begins.cls ≠ "java/lang/invoke/MethodHandle" ∧ yX9_begins.cls ≠ "java/lang/invoke/VarHandle" ∧ (parseMethodDescriptor yX9_begins.desc).map (fun d => d.parameters.length) = some 3 := by decide +kernel
set_option maxRecDepth 20000 in
theorem cd_X9_called : Cond.code yX9_called cX9_called 5 none ∈ TT := TT_mem 805 (by decide +kernel) rfl
set_option maxRecDepth 20000 in
theorem dd_X9_called : yX9_called.cls ≠ "java/lang/invoke/MethodHandle" ∧ yX9_called.cls ≠ "java/lang/invoke/VarHandle" ∧ (parseMethodDescriptor yX9_called.desc).map (fun d => d.parameters.length) = some 2 := by decide +kernel
set_option maxRecDepth 20000 in
theorem cf_X9_93 : ∀ w ∈ ([.methodLink RX9 93 yX9_begins, .static yX9_begins, .initialized yX9_begins.cls] : List Cond), w ∈ TT := TT_by [806, 807, 37] (by decide +kernel) rfl
set_option maxRecDepth 20000 in
theorem cd_X9_ask : Cond.code yX9_ask cX9_ask 5 (some .int) ∈ TT := TT_mem 801 (by decide +kernel) rfl
set_option maxRecDepth 20000 in
theorem dd_X9_ask : yX9_ask.cls ≠ "java/lang/invoke/MethodHandle" ∧ yX9_ask.cls ≠ "java/lang/invoke/VarHandle" ∧ (parseMethodDescriptor yX9_ask.desc).map (fun d => d.parameters.length) = some 2 := by decide +kernel
set_option maxRecDepth 20000 in
theorem cf_X9_97 : ∀ w ∈ ([.methodLink RX9 97 yX9_called, .instanceMethod yX9_called, .selects yX9_called.cls yX9_called yX9_called, .initialized yX9_called.cls] : List Cond), w ∈ TT := TT_by [802, 804, 20, 37] (by decide +kernel) rfl
set_option maxRecDepth 20000 in
theorem cf_X9_101 : ∀ w ∈ ([.methodLink RX9 101 yX9_counted, .instanceMethod yX9_counted, .selects yX9_counted.cls yX9_counted yX9_counted, .initialized yX9_counted.cls] : List Cond), w ∈ TT := TT_by [809, 811, 21, 37] (by decide +kernel) rfl
set_option maxRecDepth 20000 in
theorem cd_X9_alone : Cond.code yX9_alone cX9_alone 1 (some .int) ∈ TT := TT_mem 820 (by decide +kernel) rfl
set_option maxRecDepth 20000 in
theorem dd_X9_alone : yX9_alone.cls ≠ "java/lang/invoke/MethodHandle" ∧ yX9_alone.cls ≠ "java/lang/invoke/VarHandle" ∧ (parseMethodDescriptor yX9_alone.desc).map (fun d => d.parameters.length) = some 0 := by decide +kernel
set_option maxRecDepth 20000 in
theorem cd_X9_piles : Cond.code yX9_piles cX9_piles 4 none ∈ TT := TT_mem 828 (by decide +kernel) rfl
set_option maxRecDepth 20000 in
theorem dd_X9_piles : yX9_piles.cls ≠ "java/lang/invoke/MethodHandle" ∧ yX9_piles.cls ≠ "java/lang/invoke/VarHandle" ∧ (parseMethodDescriptor yX9_piles.desc).map (fun d => d.parameters.length) = some 2 := by decide +kernel
set_option maxRecDepth 20000 in
theorem cd_X9_descend : Cond.code yX9_descend cX9_descend 1 none ∈ TT := TT_mem 824 (by decide +kernel) rfl
set_option maxRecDepth 20000 in
theorem dd_X9_descend : yX9_descend.cls ≠ "java/lang/invoke/MethodHandle" ∧ yX9_descend.cls ≠ "java/lang/invoke/VarHandle" ∧ (parseMethodDescriptor yX9_descend.desc).map (fun d => d.parameters.length) = some 0 := by decide +kernel
set_option maxRecDepth 20000 in
theorem cf_X9_104 : ∀ w ∈ ([.methodLink RX9 104 yX9_piles, .instanceMethod yX9_piles, .selects yX9_piles.cls yX9_piles yX9_piles, .initialized yX9_piles.cls] : List Cond), w ∈ TT := TT_by [825, 827, 23, 37] (by decide +kernel) rfl
set_option maxRecDepth 20000 in
theorem cd_X9_step : Cond.code yX9_step cX9_step 5 (some .int) ∈ TT := TT_mem 832 (by decide +kernel) rfl
set_option maxRecDepth 20000 in
theorem dd_X9_step : yX9_step.cls ≠ "java/lang/invoke/MethodHandle" ∧ yX9_step.cls ≠ "java/lang/invoke/VarHandle" ∧ (parseMethodDescriptor yX9_step.desc).map (fun d => d.parameters.length) = some 0 := by decide +kernel
set_option maxRecDepth 20000 in
theorem cd_X9_nodes : Cond.code yX9_nodes cX9_nodes 6 (some .int) ∈ TT := TT_mem 836 (by decide +kernel) rfl
set_option maxRecDepth 20000 in
theorem dd_X9_nodes : yX9_nodes.cls ≠ "java/lang/invoke/MethodHandle" ∧ yX9_nodes.cls ≠ "java/lang/invoke/VarHandle" ∧ (parseMethodDescriptor yX9_nodes.desc).map (fun d => d.parameters.length) = some 0 := by decide +kernel
set_option maxRecDepth 20000 in
theorem cd_X9_splits : Cond.code yX9_splits cX9_splits 2 (some .boolean) ∈ TT := TT_mem 844 (by decide +kernel) rfl
set_option maxRecDepth 20000 in
theorem dd_X9_splits : yX9_splits.cls ≠ "java/lang/invoke/MethodHandle" ∧ yX9_splits.cls ≠ "java/lang/invoke/VarHandle" ∧ (parseMethodDescriptor yX9_splits.desc).map (fun d => d.parameters.length) = some 1 := by decide +kernel
set_option maxRecDepth 20000 in
theorem cd_X9_begin : Cond.code yX9_begin cX9_begin 3 (some .int) ∈ TT := TT_mem 840 (by decide +kernel) rfl
set_option maxRecDepth 20000 in
theorem dd_X9_begin : yX9_begin.cls ≠ "java/lang/invoke/MethodHandle" ∧ yX9_begin.cls ≠ "java/lang/invoke/VarHandle" ∧ (parseMethodDescriptor yX9_begin.desc).map (fun d => d.parameters.length) = some 0 := by decide +kernel
set_option maxRecDepth 20000 in
theorem cf_X9_107 : ∀ w ∈ ([.methodLink RX9 107 yX9_splits, .instanceMethod yX9_splits, .selects yX9_splits.cls yX9_splits yX9_splits, .initialized yX9_splits.cls] : List Cond), w ∈ TT := TT_by [841, 843, 24, 37] (by decide +kernel) rfl
set_option maxRecDepth 20000 in
theorem cd_X9_draw : Cond.code yX9_draw cX9_draw 4 (some .int) ∈ TT := TT_mem 852 (by decide +kernel) rfl
set_option maxRecDepth 20000 in
theorem dd_X9_draw : yX9_draw.cls ≠ "java/lang/invoke/MethodHandle" ∧ yX9_draw.cls ≠ "java/lang/invoke/VarHandle" ∧ (parseMethodDescriptor yX9_draw.desc).map (fun d => d.parameters.length) = some 2 := by decide +kernel
set_option maxRecDepth 20000 in
theorem ld_X9_110 : Cond.constant RX9 110 (1103515245) ∈ TT := TT_mem 853 (by decide +kernel) rfl
set_option maxRecDepth 20000 in
theorem cd_X9_sleeps : Cond.code yX9_sleeps cX9_sleeps 2 none ∈ TT := TT_mem 857 (by decide +kernel) rfl
set_option maxRecDepth 20000 in
theorem dd_X9_sleeps : yX9_sleeps.cls ≠ "java/lang/invoke/MethodHandle" ∧ yX9_sleeps.cls ≠ "java/lang/invoke/VarHandle" ∧ (parseMethodDescriptor yX9_sleeps.desc).map (fun d => d.parameters.length) = some 1 := by decide +kernel
set_option maxRecDepth 20000 in
theorem cd_X9_split : Cond.code yX9_split cX9_split 4 (some .int) ∈ TT := TT_mem 848 (by decide +kernel) rfl
set_option maxRecDepth 20000 in
theorem dd_X9_split : yX9_split.cls ≠ "java/lang/invoke/MethodHandle" ∧ yX9_split.cls ≠ "java/lang/invoke/VarHandle" ∧ (parseMethodDescriptor yX9_split.desc).map (fun d => d.parameters.length) = some 0 := by decide +kernel
set_option maxRecDepth 20000 in
theorem cf_X9_111 : ∀ w ∈ ([.methodLink RX9 111 yX9_draw, .instanceMethod yX9_draw, .selects yX9_draw.cls yX9_draw yX9_draw, .initialized yX9_draw.cls] : List Cond), w ∈ TT := TT_by [849, 851, 25, 37] (by decide +kernel) rfl
set_option maxRecDepth 20000 in
theorem cf_X9_114 : ∀ w ∈ ([.methodLink RX9 114 yX9_sleeps, .instanceMethod yX9_sleeps, .selects yX9_sleeps.cls yX9_sleeps yX9_sleeps, .initialized yX9_sleeps.cls] : List Cond), w ∈ TT := TT_by [854, 856, 26, 37] (by decide +kernel) rfl
set_option maxRecDepth 20000 in
theorem cd_X9_frames : Cond.code yX9_frames cX9_frames 2 none ∈ TT := TT_mem 861 (by decide +kernel) rfl
set_option maxRecDepth 20000 in
theorem dd_X9_frames : yX9_frames.cls ≠ "java/lang/invoke/MethodHandle" ∧ yX9_frames.cls ≠ "java/lang/invoke/VarHandle" ∧ (parseMethodDescriptor yX9_frames.desc).map (fun d => d.parameters.length) = some 0 := by decide +kernel
set_option maxRecDepth 20000 in
theorem cd_X9_frame : Cond.code yX9_frame cX9_frame 5 (some .int) ∈ TT := TT_mem 865 (by decide +kernel) rfl
set_option maxRecDepth 20000 in
theorem dd_X9_frame : yX9_frame.cls ≠ "java/lang/invoke/MethodHandle" ∧ yX9_frame.cls ≠ "java/lang/invoke/VarHandle" ∧ (parseMethodDescriptor yX9_frame.desc).map (fun d => d.parameters.length) = some 1 := by decide +kernel
set_option maxRecDepth 20000 in
theorem cd_X9_heard : Cond.code yX9_heard cX9_heard 2 (some .int) ∈ TT := TT_mem 869 (by decide +kernel) rfl
set_option maxRecDepth 20000 in
theorem dd_X9_heard : yX9_heard.cls ≠ "java/lang/invoke/MethodHandle" ∧ yX9_heard.cls ≠ "java/lang/invoke/VarHandle" ∧ (parseMethodDescriptor yX9_heard.desc).map (fun d => d.parameters.length) = some 1 := by decide +kernel
set_option maxRecDepth 20000 in
theorem cd_X9_found : Cond.code yX9_found cX9_found 2 (some .int) ∈ TT := TT_mem 873 (by decide +kernel) rfl
set_option maxRecDepth 20000 in
theorem dd_X9_found : yX9_found.cls ≠ "java/lang/invoke/MethodHandle" ∧ yX9_found.cls ≠ "java/lang/invoke/VarHandle" ∧ (parseMethodDescriptor yX9_found.desc).map (fun d => d.parameters.length) = some 1 := by decide +kernel
set_option maxRecDepth 20000 in
theorem cd_X9_cost : Cond.code yX9_cost cX9_cost 2 (some .int) ∈ TT := TT_mem 877 (by decide +kernel) rfl
set_option maxRecDepth 20000 in
theorem dd_X9_cost : yX9_cost.cls ≠ "java/lang/invoke/MethodHandle" ∧ yX9_cost.cls ≠ "java/lang/invoke/VarHandle" ∧ (parseMethodDescriptor yX9_cost.desc).map (fun d => d.parameters.length) = some 1 := by decide +kernel
set_option maxRecDepth 20000 in
theorem cd_X9_count : Cond.code yX9_count cX9_count 2 (some .int) ∈ TT := TT_mem 881 (by decide +kernel) rfl
set_option maxRecDepth 20000 in
theorem dd_X9_count : yX9_count.cls ≠ "java/lang/invoke/MethodHandle" ∧ yX9_count.cls ≠ "java/lang/invoke/VarHandle" ∧ (parseMethodDescriptor yX9_count.desc).map (fun d => d.parameters.length) = some 1 := by decide +kernel
set_option maxRecDepth 20000 in
theorem cd_X9_image : Cond.code yX9_image cX9_image 3 (some .boolean) ∈ TT := TT_mem 885 (by decide +kernel) rfl
set_option maxRecDepth 20000 in
theorem dd_X9_image : yX9_image.cls ≠ "java/lang/invoke/MethodHandle" ∧ yX9_image.cls ≠ "java/lang/invoke/VarHandle" ∧ (parseMethodDescriptor yX9_image.desc).map (fun d => d.parameters.length) = some 1 := by decide +kernel
set_option maxRecDepth 20000 in
theorem cd_X9_again : Cond.code yX9_again cX9_again 3 (some .boolean) ∈ TT := TT_mem 889 (by decide +kernel) rfl
set_option maxRecDepth 20000 in
theorem dd_X9_again : yX9_again.cls ≠ "java/lang/invoke/MethodHandle" ∧ yX9_again.cls ≠ "java/lang/invoke/VarHandle" ∧ (parseMethodDescriptor yX9_again.desc).map (fun d => d.parameters.length) = some 1 := by decide +kernel
set_option maxRecDepth 20000 in
theorem cd_X0_init : Cond.code yX0_init cX0_init 1 none ∈ TT := TT_mem 144 (by decide +kernel) rfl
set_option maxRecDepth 20000 in
theorem dd_X0_init : yX0_init.cls ≠ "java/lang/invoke/MethodHandle" ∧ yX0_init.cls ≠ "java/lang/invoke/VarHandle" ∧ (parseMethodDescriptor yX0_init.desc).map (fun d => d.parameters.length) = some 0 := by decide +kernel
set_option maxRecDepth 20000 in
theorem cf_X0_3 : ∀ w ∈ ([.methodLink RX0 3 objectInit, .instanceMethod objectInit, .code objectInit ⟨#[0xb1]⟩ 1 none] : List Cond), w ∈ TT := TT_by [145, 48, 49] (by decide +kernel) rfl
set_option maxRecDepth 20000 in
theorem fl_X0_9 : Cond.fieldLink RX0 9 (TX0 0).1 (TX0 0).2.1 (TX0 0).2.2.1 ∈ TT := TT_mem 146 (by decide +kernel) rfl
set_option maxRecDepth 20000 in
theorem fl_X0_15 : Cond.fieldLink RX0 15 (TX0 2).1 (TX0 2).2.1 (TX0 2).2.2.1 ∈ TT := TT_mem 148 (by decide +kernel) rfl
set_option maxRecDepth 20000 in
theorem cd_X0_start : Cond.code yX0_start cX0_start 3 none ∈ TT := TT_mem 522 (by decide +kernel) rfl
set_option maxRecDepth 20000 in
theorem dd_X0_start : yX0_start.cls ≠ "java/lang/invoke/MethodHandle" ∧ yX0_start.cls ≠ "java/lang/invoke/VarHandle" ∧ (parseMethodDescriptor yX0_start.desc).map (fun d => d.parameters.length) = some 1 := by decide +kernel
set_option maxRecDepth 20000 in
theorem cf_X0_19 : ∀ w ∈ ([.methodLink RX0 19 yJ7_fill_53178, .static yJ7_fill_53178, .initialized yJ7_fill_53178.cls] : List Cond), w ∈ TT := TT_by [523, 524, 40] (by decide +kernel) rfl
set_option maxRecDepth 20000 in
theorem fl_X0_25 : Cond.fieldLink RX0 25 (TX0 1).1 (TX0 1).2.1 (TX0 1).2.2.1 ∈ TT := TT_mem 147 (by decide +kernel) rfl
set_option maxRecDepth 20000 in
theorem cd_X0_isUnderWay : Cond.code yX0_isUnderWay cX0_isUnderWay 1 (some .boolean) ∈ TT := TT_mem 533 (by decide +kernel) rfl
set_option maxRecDepth 20000 in
theorem dd_X0_isUnderWay : yX0_isUnderWay.cls ≠ "java/lang/invoke/MethodHandle" ∧ yX0_isUnderWay.cls ≠ "java/lang/invoke/VarHandle" ∧ (parseMethodDescriptor yX0_isUnderWay.desc).map (fun d => d.parameters.length) = some 0 := by decide +kernel
set_option maxRecDepth 20000 in
theorem cd_X0_of : Cond.code yX0_of cX0_of 2 (some .int) ∈ TT := TT_mem 346 (by decide +kernel) rfl
set_option maxRecDepth 20000 in
theorem dd_X0_of : yX0_of.cls ≠ "java/lang/invoke/MethodHandle" ∧ yX0_of.cls ≠ "java/lang/invoke/VarHandle" ∧ (parseMethodDescriptor yX0_of.desc).map (fun d => d.parameters.length) = some 1 := by decide +kernel
set_option maxRecDepth 20000 in
theorem cf_X0_29 : ∀ w ∈ ([.static yX8_isIn, .initialized yX8_isIn.cls] : List Cond), w ∈ TT := TT_by [333, 28] (by decide +kernel) rfl
set_option maxRecDepth 20000 in
theorem cd_X0_put : Cond.code yX0_put cX0_put 3 none ∈ TT := TT_mem 559 (by decide +kernel) rfl
set_option maxRecDepth 20000 in
theorem dd_X0_put : yX0_put.cls ≠ "java/lang/invoke/MethodHandle" ∧ yX0_put.cls ≠ "java/lang/invoke/VarHandle" ∧ (parseMethodDescriptor yX0_put.desc).map (fun d => d.parameters.length) = some 2 := by decide +kernel
set_option maxRecDepth 20000 in
theorem cd_X0_release : Cond.code yX0_release cX0_release 2 none ∈ TT := TT_mem 563 (by decide +kernel) rfl
set_option maxRecDepth 20000 in
theorem dd_X0_release : yX0_release.cls ≠ "java/lang/invoke/MethodHandle" ∧ yX0_release.cls ≠ "java/lang/invoke/VarHandle" ∧ (parseMethodDescriptor yX0_release.desc).map (fun d => d.parameters.length) = some 1 := by decide +kernel
set_option maxRecDepth 20000 in
theorem cf_X0_33 : ∀ w ∈ ([.static yX8_setOf, .initialized yX8_setOf.cls] : List Cond), w ∈ TT := TT_by [304, 28] (by decide +kernel) rfl
set_option maxRecDepth 20000 in
theorem ld_X0_37 : Cond.constantLong RX0 37 (-1) ∈ TT := TT_mem 564 (by decide +kernel) rfl
set_option maxRecDepth 20000 in
theorem cd_X0_atZero : Cond.code yX0_atZero cX0_atZero 6 (some .long) ∈ TT := TT_mem 537 (by decide +kernel) rfl
set_option maxRecDepth 20000 in
theorem dd_X0_atZero : yX0_atZero.cls ≠ "java/lang/invoke/MethodHandle" ∧ yX0_atZero.cls ≠ "java/lang/invoke/VarHandle" ∧ (parseMethodDescriptor yX0_atZero.desc).map (fun d => d.parameters.length) = some 1 := by decide +kernel
set_option maxRecDepth 20000 in
theorem cd_X0_shift : Cond.code yX0_shift cX0_shift 5 none ∈ TT := TT_mem 542 (by decide +kernel) rfl
set_option maxRecDepth 20000 in
theorem dd_X0_shift : yX0_shift.cls ≠ "java/lang/invoke/MethodHandle" ∧ yX0_shift.cls ≠ "java/lang/invoke/VarHandle" ∧ (parseMethodDescriptor yX0_shift.desc).map (fun d => d.parameters.length) = some 2 := by decide +kernel
set_option maxRecDepth 20000 in
theorem cf_X0_39 : ∀ w ∈ ([.methodLink RX0 39 Lib.Math.max.name, .static Lib.Math.max.name, .initialized "java/lang/Math", .code Lib.Math.max.name Lib.Math.max.code 2 (some .int)] : List Cond), w ∈ TT := TT_by [543, 544, 41, 545] (by decide +kernel) rfl
set_option maxRecDepth 20000 in
theorem cd_X0_copyFrom : Cond.code yX0_copyFrom cX0_copyFrom 2 none ∈ TT := TT_mem 658 (by decide +kernel) rfl
set_option maxRecDepth 20000 in
theorem dd_X0_copyFrom : yX0_copyFrom.cls ≠ "java/lang/invoke/MethodHandle" ∧ yX0_copyFrom.cls ≠ "java/lang/invoke/VarHandle" ∧ (parseMethodDescriptor yX0_copyFrom.desc).map (fun d => d.parameters.length) = some 1 := by decide +kernel
set_option maxRecDepth 20000 in
theorem cf_X0_45 : ∀ w ∈ ([.methodLink RX0 45 arraycopyName, .native arraycopyName, .static arraycopyName, .initialized "java/lang/System"] : List Cond), w ∈ TT := TT_by [659, 506, 505, 39] (by decide +kernel) rfl
set_option maxRecDepth 20000 in
theorem cd_X1_init : Cond.code yX1_init cX1_init 1 none ∈ TT := TT_mem 252 (by decide +kernel) rfl
set_option maxRecDepth 20000 in
theorem dd_X1_init : yX1_init.cls ≠ "java/lang/invoke/MethodHandle" ∧ yX1_init.cls ≠ "java/lang/invoke/VarHandle" ∧ (parseMethodDescriptor yX1_init.desc).map (fun d => d.parameters.length) = some 0 := by decide +kernel
set_option maxRecDepth 20000 in
theorem cf_X1_3 : ∀ w ∈ ([.methodLink RX1 3 objectInit, .instanceMethod objectInit, .code objectInit ⟨#[0xb1]⟩ 1 none] : List Cond), w ∈ TT := TT_by [253, 48, 49] (by decide +kernel) rfl
set_option maxRecDepth 20000 in
theorem fl_X1_9 : Cond.fieldLink RX1 9 (TX1 0).1 (TX1 0).2.1 (TX1 0).2.2.1 ∈ TT := TT_mem 254 (by decide +kernel) rfl
set_option maxRecDepth 20000 in
theorem fl_X1_15 : Cond.fieldLink RX1 15 (TX1 1).1 (TX1 1).2.1 (TX1 1).2.2.1 ∈ TT := TT_mem 255 (by decide +kernel) rfl
set_option maxRecDepth 20000 in
theorem cd_X1_admit : Cond.code yX1_admit cX1_admit 3 none ∈ TT := TT_mem 499 (by decide +kernel) rfl
set_option maxRecDepth 20000 in
theorem dd_X1_admit : yX1_admit.cls ≠ "java/lang/invoke/MethodHandle" ∧ yX1_admit.cls ≠ "java/lang/invoke/VarHandle" ∧ (parseMethodDescriptor yX1_admit.desc).map (fun d => d.parameters.length) = some 1 := by decide +kernel
set_option maxRecDepth 20000 in
theorem fl_X1_18 : Cond.fieldLink RX1 18 (TX1 2).1 (TX1 2).2.1 (TX1 2).2.2.1 ∈ TT := TT_mem 256 (by decide +kernel) rfl
set_option maxRecDepth 20000 in
theorem cd_X1_at : Cond.code yX1_at cX1_at 2 (some .long) ∈ TT := TT_mem 510 (by decide +kernel) rfl
set_option maxRecDepth 20000 in
theorem dd_X1_at : yX1_at.cls ≠ "java/lang/invoke/MethodHandle" ∧ yX1_at.cls ≠ "java/lang/invoke/VarHandle" ∧ (parseMethodDescriptor yX1_at.desc).map (fun d => d.parameters.length) = some 1 := by decide +kernel
set_option maxRecDepth 20000 in
theorem fl_X1_22 : Cond.fieldLink RX1 22 (TX1 3).1 (TX1 3).2.1 (TX1 3).2.2.1 ∈ TT := TT_mem 257 (by decide +kernel) rfl
set_option maxRecDepth 20000 in
theorem cd_X1_turn : Cond.code yX1_turn cX1_turn 1 none ∈ TT := TT_mem 503 (by decide +kernel) rfl
set_option maxRecDepth 20000 in
theorem dd_X1_turn : yX1_turn.cls ≠ "java/lang/invoke/MethodHandle" ∧ yX1_turn.cls ≠ "java/lang/invoke/VarHandle" ∧ (parseMethodDescriptor yX1_turn.desc).map (fun d => d.parameters.length) = some 0 := by decide +kernel
set_option maxRecDepth 20000 in
theorem cf_X1_25 : ∀ w ∈ ([.methodLink RX1 25 arraycopyName, .native arraycopyName, .static arraycopyName, .initialized "java/lang/System"] : List Cond), w ∈ TT := TT_by [504, 506, 505, 39] (by decide +kernel) rfl
set_option maxRecDepth 20000 in
theorem cd_X2_init : Cond.code yX2_init cX2_init 1 none ∈ TT := TT_mem 161 (by decide +kernel) rfl
set_option maxRecDepth 20000 in
theorem dd_X2_init : yX2_init.cls ≠ "java/lang/invoke/MethodHandle" ∧ yX2_init.cls ≠ "java/lang/invoke/VarHandle" ∧ (parseMethodDescriptor yX2_init.desc).map (fun d => d.parameters.length) = some 0 := by decide +kernel
set_option maxRecDepth 20000 in
theorem cf_X2_3 : ∀ w ∈ ([.methodLink RX2 3 objectInit, .instanceMethod objectInit, .code objectInit ⟨#[0xb1]⟩ 1 none] : List Cond), w ∈ TT := TT_by [162, 48, 49] (by decide +kernel) rfl
set_option maxRecDepth 20000 in
theorem cd_X2_startOne : Cond.code yX2_startOne cX2_startOne 1 none ∈ TT := TT_mem 595 (by decide +kernel) rfl
set_option maxRecDepth 20000 in
theorem dd_X2_startOne : yX2_startOne.cls ≠ "java/lang/invoke/MethodHandle" ∧ yX2_startOne.cls ≠ "java/lang/invoke/VarHandle" ∧ (parseMethodDescriptor yX2_startOne.desc).map (fun d => d.parameters.length) = some 0 := by decide +kernel
set_option maxRecDepth 20000 in
theorem fl_X2_9 : Cond.fieldLink RX2 9 (TX2 1).1 (TX2 1).2.1 (TX2 1).2.2.1 ∈ TT := TT_mem 165 (by decide +kernel) rfl
set_option maxRecDepth 20000 in
theorem fl_X2_15 : Cond.fieldLink RX2 15 (TX2 2).1 (TX2 2).2.1 (TX2 2).2.2.1 ∈ TT := TT_mem 167 (by decide +kernel) rfl
set_option maxRecDepth 20000 in
theorem fl_X2_18 : Cond.fieldLink RX2 18 (TX2 3).1 (TX2 3).2.1 (TX2 3).2.2.1 ∈ TT := TT_mem 169 (by decide +kernel) rfl
set_option maxRecDepth 20000 in
theorem cd_X2_note : Cond.code yX2_note cX2_note 2 none ∈ TT := TT_mem 599 (by decide +kernel) rfl
set_option maxRecDepth 20000 in
theorem dd_X2_note : yX2_note.cls ≠ "java/lang/invoke/MethodHandle" ∧ yX2_note.cls ≠ "java/lang/invoke/VarHandle" ∧ (parseMethodDescriptor yX2_note.desc).map (fun d => d.parameters.length) = some 1 := by decide +kernel
set_option maxRecDepth 20000 in
theorem cd_X2_guessNext : Cond.code yX2_guessNext cX2_guessNext 2 none ∈ TT := TT_mem 603 (by decide +kernel) rfl
set_option maxRecDepth 20000 in
theorem dd_X2_guessNext : yX2_guessNext.cls ≠ "java/lang/invoke/MethodHandle" ∧ yX2_guessNext.cls ≠ "java/lang/invoke/VarHandle" ∧ (parseMethodDescriptor yX2_guessNext.desc).map (fun d => d.parameters.length) = some 0 := by decide +kernel
set_option maxRecDepth 20000 in
theorem ld_X2_21 : Cond.constantFloat RX2 21 (1075377603) ∈ TT := TT_mem 604 (by decide +kernel) rfl
set_option maxRecDepth 20000 in
theorem cf_X2_22 : ∀ w ∈ ([.methodLink RX2 22 Lib.Math.min.name, .static Lib.Math.min.name, .initialized "java/lang/Math", .code Lib.Math.min.name Lib.Math.min.code 2 (some .int)] : List Cond), w ∈ TT := TT_by [605, 606, 41, 607] (by decide +kernel) rfl
set_option maxRecDepth 20000 in
theorem cf_X2_28 : ∀ w ∈ ([.methodLink RX2 28 Lib.Math.max.name, .static Lib.Math.max.name, .initialized "java/lang/Math", .code Lib.Math.max.name Lib.Math.max.code 2 (some .int)] : List Cond), w ∈ TT := TT_by [608, 544, 41, 545] (by decide +kernel) rfl
set_option maxRecDepth 20000 in
theorem fl_X2_31 : Cond.fieldLink RX2 31 (TX2 4).1 (TX2 4).2.1 (TX2 4).2.2.1 ∈ TT := TT_mem 171 (by decide +kernel) rfl
set_option maxRecDepth 20000 in
theorem cd_X2_copyFrom : Cond.code yX2_copyFrom cX2_copyFrom 2 none ∈ TT := TT_mem 663 (by decide +kernel) rfl
set_option maxRecDepth 20000 in
theorem dd_X2_copyFrom : yX2_copyFrom.cls ≠ "java/lang/invoke/MethodHandle" ∧ yX2_copyFrom.cls ≠ "java/lang/invoke/VarHandle" ∧ (parseMethodDescriptor yX2_copyFrom.desc).map (fun d => d.parameters.length) = some 1 := by decide +kernel
set_option maxRecDepth 20000 in
theorem fl_X2_34 : Cond.fieldLink RX2 34 (TX2 0).1 (TX2 0).2.1 (TX2 0).2.2.1 ∈ TT := TT_mem 163 (by decide +kernel) rfl
set_option maxRecDepth 20000 in
theorem cd_X3_init : Cond.code yX3_init cX3_init 1 none ∈ TT := TT_mem 109 (by decide +kernel) rfl
set_option maxRecDepth 20000 in
theorem dd_X3_init : yX3_init.cls ≠ "java/lang/invoke/MethodHandle" ∧ yX3_init.cls ≠ "java/lang/invoke/VarHandle" ∧ (parseMethodDescriptor yX3_init.desc).map (fun d => d.parameters.length) = some 0 := by decide +kernel
set_option maxRecDepth 20000 in
theorem cf_X3_3 : ∀ w ∈ ([.methodLink RX3 3 objectInit, .instanceMethod objectInit, .code objectInit ⟨#[0xb1]⟩ 1 none] : List Cond), w ∈ TT := TT_by [110, 48, 49] (by decide +kernel) rfl
set_option maxRecDepth 20000 in
theorem fl_X3_9 : Cond.fieldLink RX3 9 (TX3 0).1 (TX3 0).2.1 (TX3 0).2.2.1 ∈ TT := TT_mem 111 (by decide +kernel) rfl
set_option maxRecDepth 20000 in
theorem cd_X3_wayIsOneAt : Cond.code yX3_wayIsOneAt cX3_wayIsOneAt 2 (some .boolean) ∈ TT := TT_mem 391 (by decide +kernel) rfl
set_option maxRecDepth 20000 in
theorem dd_X3_wayIsOneAt : yX3_wayIsOneAt.cls ≠ "java/lang/invoke/MethodHandle" ∧ yX3_wayIsOneAt.cls ≠ "java/lang/invoke/VarHandle" ∧ (parseMethodDescriptor yX3_wayIsOneAt.desc).map (fun d => d.parameters.length) = some 1 := by decide +kernel
set_option maxRecDepth 20000 in
theorem fl_X3_15 : Cond.fieldLink RX3 15 (TX3 2).1 (TX3 2).2.1 (TX3 2).2.2.1 ∈ TT := TT_mem 115 (by decide +kernel) rfl
set_option maxRecDepth 20000 in
theorem cf_X3_19 : ∀ w ∈ ([.static yX8_isOneAt, .initialized yX8_isOneAt.cls] : List Cond), w ∈ TT := TT_by [293, 28] (by decide +kernel) rfl
set_option maxRecDepth 20000 in
theorem cd_X3_goOnFrom : Cond.code yX3_goOnFrom cX3_goOnFrom 4 none ∈ TT := TT_mem 407 (by decide +kernel) rfl
set_option maxRecDepth 20000 in
theorem dd_X3_goOnFrom : yX3_goOnFrom.cls ≠ "java/lang/invoke/MethodHandle" ∧ yX3_goOnFrom.cls ≠ "java/lang/invoke/VarHandle" ∧ (parseMethodDescriptor yX3_goOnFrom.desc).map (fun d => d.parameters.length) = some 2 := by decide +kernel
set_option maxRecDepth 20000 in
theorem cf_X3_23 : ∀ w ∈ ([.methodLink RX3 23 yX3_endRow, .instanceMethod yX3_endRow, .selects yX3_endRow.cls yX3_endRow yX3_endRow, .initialized yX3_endRow.cls] : List Cond), w ∈ TT := TT_by [408, 401, 402, 31] (by decide +kernel) rfl
set_option maxRecDepth 20000 in
theorem fl_X3_26 : Cond.fieldLink RX3 26 (TX3 1).1 (TX3 1).2.1 (TX3 1).2.2.1 ∈ TT := TT_mem 113 (by decide +kernel) rfl
set_option maxRecDepth 20000 in
theorem cd_X3_endRow : Cond.code yX3_endRow cX3_endRow 1 none ∈ TT := TT_mem 403 (by decide +kernel) rfl
set_option maxRecDepth 20000 in
theorem dd_X3_endRow : yX3_endRow.cls ≠ "java/lang/invoke/MethodHandle" ∧ yX3_endRow.cls ≠ "java/lang/invoke/VarHandle" ∧ (parseMethodDescriptor yX3_endRow.desc).map (fun d => d.parameters.length) = some 0 := by decide +kernel
set_option maxRecDepth 20000 in
theorem cd_X3_copyFrom : Cond.code yX3_copyFrom cX3_copyFrom 2 none ∈ TT := TT_mem 649 (by decide +kernel) rfl
set_option maxRecDepth 20000 in
theorem dd_X3_copyFrom : yX3_copyFrom.cls ≠ "java/lang/invoke/MethodHandle" ∧ yX3_copyFrom.cls ≠ "java/lang/invoke/VarHandle" ∧ (parseMethodDescriptor yX3_copyFrom.desc).map (fun d => d.parameters.length) = some 1 := by decide +kernel
set_option maxRecDepth 20000 in
theorem cd_X4_init : Cond.code yX4_init cX4_init 1 none ∈ TT := TT_mem 127 (by decide +kernel) rfl
set_option maxRecDepth 20000 in
theorem dd_X4_init : yX4_init.cls ≠ "java/lang/invoke/MethodHandle" ∧ yX4_init.cls ≠ "java/lang/invoke/VarHandle" ∧ (parseMethodDescriptor yX4_init.desc).map (fun d => d.parameters.length) = some 0 := by decide +kernel
set_option maxRecDepth 20000 in
theorem cf_X4_3 : ∀ w ∈ ([.methodLink RX4 3 objectInit, .instanceMethod objectInit, .code objectInit ⟨#[0xb1]⟩ 1 none] : List Cond), w ∈ TT := TT_by [128, 48, 49] (by decide +kernel) rfl
set_option maxRecDepth 20000 in
theorem fl_X4_11 : Cond.fieldLink RX4 11 (TX4 0).1 (TX4 0).2.1 (TX4 0).2.2.1 ∈ TT := TT_mem 129 (by decide +kernel) rfl
set_option maxRecDepth 20000 in
theorem fl_X4_15 : Cond.fieldLink RX4 15 (TX4 1).1 (TX4 1).2.1 (TX4 1).2.2.1 ∈ TT := TT_mem 130 (by decide +kernel) rfl
set_option maxRecDepth 20000 in
theorem cd_X4_startAnew : Cond.code yX4_startAnew cX4_startAnew 1 none ∈ TT := TT_mem 462 (by decide +kernel) rfl
set_option maxRecDepth 20000 in
theorem dd_X4_startAnew : yX4_startAnew.cls ≠ "java/lang/invoke/MethodHandle" ∧ yX4_startAnew.cls ≠ "java/lang/invoke/VarHandle" ∧ (parseMethodDescriptor yX4_startAnew.desc).map (fun d => d.parameters.length) = some 0 := by decide +kernel
set_option maxRecDepth 20000 in
theorem fl_X4_19 : Cond.fieldLink RX4 19 (TX4 2).1 (TX4 2).2.1 (TX4 2).2.2.1 ∈ TT := TT_mem 131 (by decide +kernel) rfl
set_option maxRecDepth 20000 in
theorem cf_X4_23 : ∀ w ∈ ([.methodLink RX4 23 yX4_add, .instanceMethod yX4_add, .selects yX4_add.cls yX4_add yX4_add, .initialized yX4_add.cls] : List Cond), w ∈ TT := TT_by [463, 465, 5, 32] (by decide +kernel) rfl
set_option maxRecDepth 20000 in
theorem cd_X4_topRow : Cond.code yX4_topRow cX4_topRow 1 (some .long) ∈ TT := TT_mem 474 (by decide +kernel) rfl
set_option maxRecDepth 20000 in
theorem dd_X4_topRow : yX4_topRow.cls ≠ "java/lang/invoke/MethodHandle" ∧ yX4_topRow.cls ≠ "java/lang/invoke/VarHandle" ∧ (parseMethodDescriptor yX4_topRow.desc).map (fun d => d.parameters.length) = some 0 := by decide +kernel
set_option maxRecDepth 20000 in
theorem cd_X4_topLength : Cond.code yX4_topLength cX4_topLength 1 (some .int) ∈ TT := TT_mem 478 (by decide +kernel) rfl
set_option maxRecDepth 20000 in
theorem dd_X4_topLength : yX4_topLength.cls ≠ "java/lang/invoke/MethodHandle" ∧ yX4_topLength.cls ≠ "java/lang/invoke/VarHandle" ∧ (parseMethodDescriptor yX4_topLength.desc).map (fun d => d.parameters.length) = some 0 := by decide +kernel
set_option maxRecDepth 20000 in
theorem cd_X4_dropTop : Cond.code yX4_dropTop cX4_dropTop 1 none ∈ TT := TT_mem 482 (by decide +kernel) rfl
set_option maxRecDepth 20000 in
theorem dd_X4_dropTop : yX4_dropTop.cls ≠ "java/lang/invoke/MethodHandle" ∧ yX4_dropTop.cls ≠ "java/lang/invoke/VarHandle" ∧ (parseMethodDescriptor yX4_dropTop.desc).map (fun d => d.parameters.length) = some 0 := by decide +kernel
set_option maxRecDepth 20000 in
theorem cd_X4_addBoth : Cond.code yX4_addBoth cX4_addBoth 4 none ∈ TT := TT_mem 486 (by decide +kernel) rfl
set_option maxRecDepth 20000 in
theorem dd_X4_addBoth : yX4_addBoth.cls ≠ "java/lang/invoke/MethodHandle" ∧ yX4_addBoth.cls ≠ "java/lang/invoke/VarHandle" ∧ (parseMethodDescriptor yX4_addBoth.desc).map (fun d => d.parameters.length) = some 2 := by decide +kernel
set_option maxRecDepth 20000 in
theorem cd_X4_add : Cond.code yX4_add cX4_add 4 none ∈ TT := TT_mem 466 (by decide +kernel) rfl
set_option maxRecDepth 20000 in
theorem dd_X4_add : yX4_add.cls ≠ "java/lang/invoke/MethodHandle" ∧ yX4_add.cls ≠ "java/lang/invoke/VarHandle" ∧ (parseMethodDescriptor yX4_add.desc).map (fun d => d.parameters.length) = some 2 := by decide +kernel
set_option maxRecDepth 20000 in
theorem cd_X4_copyFrom : Cond.code yX4_copyFrom cX4_copyFrom 2 none ∈ TT := TT_mem 653 (by decide +kernel) rfl
set_option maxRecDepth 20000 in
theorem dd_X4_copyFrom : yX4_copyFrom.cls ≠ "java/lang/invoke/MethodHandle" ∧ yX4_copyFrom.cls ≠ "java/lang/invoke/VarHandle" ∧ (parseMethodDescriptor yX4_copyFrom.desc).map (fun d => d.parameters.length) = some 1 := by decide +kernel
set_option maxRecDepth 20000 in
theorem cf_X4_27 : ∀ w ∈ ([.methodLink RX4 27 arraycopyName, .native arraycopyName, .static arraycopyName, .initialized "java/lang/System"] : List Cond), w ∈ TT := TT_by [654, 506, 505, 39] (by decide +kernel) rfl
set_option maxRecDepth 20000 in
theorem cd_X5_init : Cond.code yX5_init cX5_init 1 none ∈ TT := TT_mem 54 (by decide +kernel) rfl
set_option maxRecDepth 20000 in
theorem dd_X5_init : yX5_init.cls ≠ "java/lang/invoke/MethodHandle" ∧ yX5_init.cls ≠ "java/lang/invoke/VarHandle" ∧ (parseMethodDescriptor yX5_init.desc).map (fun d => d.parameters.length) = some 0 := by decide +kernel
set_option maxRecDepth 20000 in
theorem cf_X5_3 : ∀ w ∈ ([.methodLink RX5 3 objectInit, .instanceMethod objectInit, .code objectInit ⟨#[0xb1]⟩ 1 none] : List Cond), w ∈ TT := TT_by [55, 48, 49] (by decide +kernel) rfl
set_option maxRecDepth 20000 in
theorem nw_X5_9 : ∀ w ∈ ([.classLink RX5 9 RX6, .instantiable RX6 11, .initialized RX6] : List Cond), w ∈ TT := TT_by [56, 57, 30] (by decide +kernel) rfl
set_option maxRecDepth 20000 in
theorem cf_X5_11 : ∀ w ∈ ([.instanceMethod yX6_init, .initialized yX6_init.cls] : List Cond), w ∈ TT := TT_by [59, 30] (by decide +kernel) rfl
set_option maxRecDepth 20000 in
theorem fl_X5_12 : Cond.fieldLink RX5 12 (TX5 0).1 (TX5 0).2.1 (TX5 0).2.2.1 ∈ TT := TT_mem 214 (by decide +kernel) rfl
set_option maxRecDepth 20000 in
theorem nw_X5_18 : ∀ w ∈ ([.classLink RX5 18 RX3, .instantiable RX3 3, .initialized RX3] : List Cond), w ∈ TT := TT_by [105, 106, 31] (by decide +kernel) rfl
set_option maxRecDepth 20000 in
theorem cf_X5_20 : ∀ w ∈ ([.instanceMethod yX3_init, .initialized yX3_init.cls] : List Cond), w ∈ TT := TT_by [108, 31] (by decide +kernel) rfl
set_option maxRecDepth 20000 in
theorem fl_X5_21 : Cond.fieldLink RX5 21 (TX5 1).1 (TX5 1).2.1 (TX5 1).2.2.1 ∈ TT := TT_mem 216 (by decide +kernel) rfl
set_option maxRecDepth 20000 in
theorem nw_X5_25 : ∀ w ∈ ([.classLink RX5 25 RX4, .instantiable RX4 3, .initialized RX4] : List Cond), w ∈ TT := TT_by [123, 124, 32] (by decide +kernel) rfl
set_option maxRecDepth 20000 in
theorem cf_X5_27 : ∀ w ∈ ([.instanceMethod yX4_init, .initialized yX4_init.cls] : List Cond), w ∈ TT := TT_by [126, 32] (by decide +kernel) rfl
set_option maxRecDepth 20000 in
theorem fl_X5_28 : Cond.fieldLink RX5 28 (TX5 2).1 (TX5 2).2.1 (TX5 2).2.2.1 ∈ TT := TT_mem 218 (by decide +kernel) rfl
set_option maxRecDepth 20000 in
theorem nw_X5_32 : ∀ w ∈ ([.classLink RX5 32 RX0, .instantiable RX0 3, .initialized RX0] : List Cond), w ∈ TT := TT_by [140, 141, 33] (by decide +kernel) rfl
set_option maxRecDepth 20000 in
theorem cf_X5_34 : ∀ w ∈ ([.instanceMethod yX0_init, .initialized yX0_init.cls] : List Cond), w ∈ TT := TT_by [143, 33] (by decide +kernel) rfl
set_option maxRecDepth 20000 in
theorem fl_X5_35 : Cond.fieldLink RX5 35 (TX5 3).1 (TX5 3).2.1 (TX5 3).2.2.1 ∈ TT := TT_mem 220 (by decide +kernel) rfl
set_option maxRecDepth 20000 in
theorem nw_X5_39 : ∀ w ∈ ([.classLink RX5 39 RX2, .instantiable RX2 5, .initialized RX2] : List Cond), w ∈ TT := TT_by [157, 158, 34] (by decide +kernel) rfl
set_option maxRecDepth 20000 in
theorem cf_X5_41 : ∀ w ∈ ([.instanceMethod yX2_init, .initialized yX2_init.cls] : List Cond), w ∈ TT := TT_by [160, 34] (by decide +kernel) rfl
set_option maxRecDepth 20000 in
theorem fl_X5_42 : Cond.fieldLink RX5 42 (TX5 4).1 (TX5 4).2.1 (TX5 4).2.2.1 ∈ TT := TT_mem 222 (by decide +kernel) rfl
set_option maxRecDepth 20000 in
theorem nw_X5_46 : ∀ w ∈ ([.classLink RX5 46 RX7, .instantiable RX7 6, .initialized RX7] : List Cond), w ∈ TT := TT_by [184, 185, 35] (by decide +kernel) rfl
set_option maxRecDepth 20000 in
theorem cf_X5_48 : ∀ w ∈ ([.instanceMethod yX7_init, .initialized yX7_init.cls] : List Cond), w ∈ TT := TT_by [187, 35] (by decide +kernel) rfl
set_option maxRecDepth 20000 in
theorem fl_X5_49 : Cond.fieldLink RX5 49 (TX5 5).1 (TX5 5).2.1 (TX5 5).2.2.1 ∈ TT := TT_mem 224 (by decide +kernel) rfl
set_option maxRecDepth 20000 in
theorem fl_X5_53 : Cond.fieldLink RX5 53 (TX5 6).1 (TX5 6).2.1 (TX5 6).2.2.1 ∈ TT := TT_mem 226 (by decide +kernel) rfl
set_option maxRecDepth 20000 in
theorem fl_X5_57 : Cond.fieldLink RX5 57 (TX5 7).1 (TX5 7).2.1 (TX5 7).2.2.1 ∈ TT := TT_mem 228 (by decide +kernel) rfl
set_option maxRecDepth 20000 in
theorem cd_X5_copyFrom : Cond.code yX5_copyFrom cX5_copyFrom 2 none ∈ TT := TT_mem 640 (by decide +kernel) rfl
set_option maxRecDepth 20000 in
theorem dd_X5_copyFrom : yX5_copyFrom.cls ≠ "java/lang/invoke/MethodHandle" ∧ yX5_copyFrom.cls ≠ "java/lang/invoke/VarHandle" ∧ (parseMethodDescriptor yX5_copyFrom.desc).map (fun d => d.parameters.length) = some 1 := by decide +kernel
set_option maxRecDepth 20000 in
theorem cf_X5_60 : ∀ w ∈ ([.methodLink RX5 60 yX6_copyFrom, .instanceMethod yX6_copyFrom, .selects yX6_copyFrom.cls yX6_copyFrom yX6_copyFrom, .initialized yX6_copyFrom.cls] : List Cond), w ∈ TT := TT_by [641, 642, 643, 30] (by decide +kernel) rfl
set_option maxRecDepth 20000 in
theorem cf_X5_64 : ∀ w ∈ ([.methodLink RX5 64 yX3_copyFrom, .instanceMethod yX3_copyFrom, .selects yX3_copyFrom.cls yX3_copyFrom yX3_copyFrom, .initialized yX3_copyFrom.cls] : List Cond), w ∈ TT := TT_by [646, 647, 648, 31] (by decide +kernel) rfl
set_option maxRecDepth 20000 in
theorem cf_X5_67 : ∀ w ∈ ([.methodLink RX5 67 yX4_copyFrom, .instanceMethod yX4_copyFrom, .selects yX4_copyFrom.cls yX4_copyFrom yX4_copyFrom, .initialized yX4_copyFrom.cls] : List Cond), w ∈ TT := TT_by [650, 651, 652, 32] (by decide +kernel) rfl
set_option maxRecDepth 20000 in
theorem cf_X5_70 : ∀ w ∈ ([.methodLink RX5 70 yX0_copyFrom, .instanceMethod yX0_copyFrom, .selects yX0_copyFrom.cls yX0_copyFrom yX0_copyFrom, .initialized yX0_copyFrom.cls] : List Cond), w ∈ TT := TT_by [655, 656, 657, 33] (by decide +kernel) rfl
set_option maxRecDepth 20000 in
theorem cf_X5_73 : ∀ w ∈ ([.methodLink RX5 73 yX2_copyFrom, .instanceMethod yX2_copyFrom, .selects yX2_copyFrom.cls yX2_copyFrom yX2_copyFrom, .initialized yX2_copyFrom.cls] : List Cond), w ∈ TT := TT_by [660, 661, 662, 34] (by decide +kernel) rfl
set_option maxRecDepth 20000 in
theorem cf_X5_76 : ∀ w ∈ ([.methodLink RX5 76 yX7_copyFrom, .instanceMethod yX7_copyFrom, .selects yX7_copyFrom.cls yX7_copyFrom yX7_copyFrom, .initialized yX7_copyFrom.cls] : List Cond), w ∈ TT := TT_by [664, 665, 666, 35] (by decide +kernel) rfl
set_option maxRecDepth 20000 in
theorem cd_X6_init : Cond.code yX6_init cX6_init 1 none ∈ TT := TT_mem 60 (by decide +kernel) rfl
set_option maxRecDepth 20000 in
theorem dd_X6_init : yX6_init.cls ≠ "java/lang/invoke/MethodHandle" ∧ yX6_init.cls ≠ "java/lang/invoke/VarHandle" ∧ (parseMethodDescriptor yX6_init.desc).map (fun d => d.parameters.length) = some 0 := by decide +kernel
set_option maxRecDepth 20000 in
theorem cf_X6_3 : ∀ w ∈ ([.methodLink RX6 3 objectInit, .instanceMethod objectInit, .code objectInit ⟨#[0xb1]⟩ 1 none] : List Cond), w ∈ TT := TT_by [61, 48, 49] (by decide +kernel) rfl
set_option maxRecDepth 20000 in
theorem fl_X6_9 : Cond.fieldLink RX6 9 (TX6 0).1 (TX6 0).2.1 (TX6 0).2.2.1 ∈ TT := TT_mem 62 (by decide +kernel) rfl
set_option maxRecDepth 20000 in
theorem fl_X6_15 : Cond.fieldLink RX6 15 (TX6 1).1 (TX6 1).2.1 (TX6 1).2.2.1 ∈ TT := TT_mem 64 (by decide +kernel) rfl
set_option maxRecDepth 20000 in
theorem fl_X6_19 : Cond.fieldLink RX6 19 (TX6 2).1 (TX6 2).2.1 (TX6 2).2.2.1 ∈ TT := TT_mem 66 (by decide +kernel) rfl
set_option maxRecDepth 20000 in
theorem fl_X6_22 : Cond.fieldLink RX6 22 (TX6 3).1 (TX6 3).2.1 (TX6 3).2.2.1 ∈ TT := TT_mem 68 (by decide +kernel) rfl
set_option maxRecDepth 20000 in
theorem fl_X6_25 : Cond.fieldLink RX6 25 (TX6 4).1 (TX6 4).2.1 (TX6 4).2.2.1 ∈ TT := TT_mem 69 (by decide +kernel) rfl
set_option maxRecDepth 20000 in
theorem cd_X6_has : Cond.code yX6_has cX6_has 2 (some .boolean) ∈ TT := TT_mem 322 (by decide +kernel) rfl
set_option maxRecDepth 20000 in
theorem dd_X6_has : yX6_has.cls ≠ "java/lang/invoke/MethodHandle" ∧ yX6_has.cls ≠ "java/lang/invoke/VarHandle" ∧ (parseMethodDescriptor yX6_has.desc).map (fun d => d.parameters.length) = some 1 := by decide +kernel
set_option maxRecDepth 20000 in
theorem fl_X6_28 : Cond.fieldLink RX6 28 (TX6 5).1 (TX6 5).2.1 (TX6 5).2.2.1 ∈ TT := TT_mem 71 (by decide +kernel) rfl
set_option maxRecDepth 20000 in
theorem cd_X6_add : Cond.code yX6_add cX6_add 6 (some .int) ∈ TT := TT_mem 298 (by decide +kernel) rfl
set_option maxRecDepth 20000 in
theorem dd_X6_add : yX6_add.cls ≠ "java/lang/invoke/MethodHandle" ∧ yX6_add.cls ≠ "java/lang/invoke/VarHandle" ∧ (parseMethodDescriptor yX6_add.desc).map (fun d => d.parameters.length) = some 3 := by decide +kernel
set_option maxRecDepth 20000 in
theorem cf_X6_32 : ∀ w ∈ ([.methodLink RX6 32 yX6_isTaken, .instanceMethod yX6_isTaken, .selects yX6_isTaken.cls yX6_isTaken yX6_isTaken, .initialized yX6_isTaken.cls] : List Cond), w ∈ TT := TT_by [299, 301, 0, 30] (by decide +kernel) rfl
set_option maxRecDepth 20000 in
theorem cf_X6_36 : ∀ w ∈ ([.static yX8_setOf, .initialized yX8_setOf.cls] : List Cond), w ∈ TT := TT_by [304, 28] (by decide +kernel) rfl
set_option maxRecDepth 20000 in
theorem fl_X6_40 : Cond.fieldLink RX6 40 (TX6 6).1 (TX6 6).2.1 (TX6 6).2.2.1 ∈ TT := TT_mem 73 (by decide +kernel) rfl
set_option maxRecDepth 20000 in
theorem fl_X6_44 : Cond.fieldLink RX6 44 (TX6 7).1 (TX6 7).2.1 (TX6 7).2.2.1 ∈ TT := TT_mem 75 (by decide +kernel) rfl
set_option maxRecDepth 20000 in
theorem cf_X6_47 : ∀ w ∈ ([.methodLink RX6 47 yX6_isOfGroup, .instanceMethod yX6_isOfGroup, .selects yX6_isOfGroup.cls yX6_isOfGroup yX6_isOfGroup, .initialized yX6_isOfGroup.cls] : List Cond), w ∈ TT := TT_by [306, 308, 1, 30] (by decide +kernel) rfl
set_option maxRecDepth 20000 in
theorem fl_X6_50 : Cond.fieldLink RX6 50 (TX6 8).1 (TX6 8).2.1 (TX6 8).2.2.1 ∈ TT := TT_mem 77 (by decide +kernel) rfl
set_option maxRecDepth 20000 in
theorem cf_X6_53 : ∀ w ∈ ([.methodLink RX6 53 yX6_noteOnes, .instanceMethod yX6_noteOnes, .selects yX6_noteOnes.cls yX6_noteOnes yX6_noteOnes, .initialized yX6_noteOnes.cls] : List Cond), w ∈ TT := TT_by [310, 312, 2, 30] (by decide +kernel) rfl
set_option maxRecDepth 20000 in
theorem cd_X6_noteOnes : Cond.code yX6_noteOnes cX6_noteOnes 5 none ∈ TT := TT_mem 313 (by decide +kernel) rfl
set_option maxRecDepth 20000 in
theorem dd_X6_noteOnes : yX6_noteOnes.cls ≠ "java/lang/invoke/MethodHandle" ∧ yX6_noteOnes.cls ≠ "java/lang/invoke/VarHandle" ∧ (parseMethodDescriptor yX6_noteOnes.desc).map (fun d => d.parameters.length) = some 2 := by decide +kernel
set_option maxRecDepth 20000 in
theorem cf_X6_57 : ∀ w ∈ ([.static yX8_isOneAt, .initialized yX8_isOneAt.cls] : List Cond), w ∈ TT := TT_by [293, 28] (by decide +kernel) rfl
set_option maxRecDepth 20000 in
theorem cd_X6_isTaken : Cond.code yX6_isTaken cX6_isTaken 4 (some .boolean) ∈ TT := TT_mem 302 (by decide +kernel) rfl
set_option maxRecDepth 20000 in
theorem dd_X6_isTaken : yX6_isTaken.cls ≠ "java/lang/invoke/MethodHandle" ∧ yX6_isTaken.cls ≠ "java/lang/invoke/VarHandle" ∧ (parseMethodDescriptor yX6_isTaken.desc).map (fun d => d.parameters.length) = some 1 := by decide +kernel
set_option maxRecDepth 20000 in
theorem cd_X6_isOfGroup : Cond.code yX6_isOfGroup cX6_isOfGroup 3 (some .boolean) ∈ TT := TT_mem 309 (by decide +kernel) rfl
set_option maxRecDepth 20000 in
theorem dd_X6_isOfGroup : yX6_isOfGroup.cls ≠ "java/lang/invoke/MethodHandle" ∧ yX6_isOfGroup.cls ≠ "java/lang/invoke/VarHandle" ∧ (parseMethodDescriptor yX6_isOfGroup.desc).map (fun d => d.parameters.length) = some 1 := by decide +kernel
set_option maxRecDepth 20000 in
theorem fl_X6_61 : Cond.fieldLink RX6 61 (TX6 9).1 (TX6 9).2.1 (TX6 9).2.2.1 ∈ TT := TT_mem 78 (by decide +kernel) rfl
set_option maxRecDepth 20000 in
theorem fl_X6_64 : Cond.fieldLink RX6 64 (TX6 10).1 (TX6 10).2.1 (TX6 10).2.2.1 ∈ TT := TT_mem 79 (by decide +kernel) rfl
set_option maxRecDepth 20000 in
theorem cd_X6_regroup : Cond.code yX6_regroup cX6_regroup 6 none ∈ TT := TT_mem 372 (by decide +kernel) rfl
set_option maxRecDepth 20000 in
theorem dd_X6_regroup : yX6_regroup.cls ≠ "java/lang/invoke/MethodHandle" ∧ yX6_regroup.cls ≠ "java/lang/invoke/VarHandle" ∧ (parseMethodDescriptor yX6_regroup.desc).map (fun d => d.parameters.length) = some 2 := by decide +kernel
set_option maxRecDepth 20000 in
theorem cd_X6_setThere : Cond.code yX6_setThere cX6_setThere 3 (some .boolean) ∈ TT := TT_mem 359 (by decide +kernel) rfl
set_option maxRecDepth 20000 in
theorem dd_X6_setThere : yX6_setThere.cls ≠ "java/lang/invoke/MethodHandle" ∧ yX6_setThere.cls ≠ "java/lang/invoke/VarHandle" ∧ (parseMethodDescriptor yX6_setThere.desc).map (fun d => d.parameters.length) = some 2 := by decide +kernel
set_option maxRecDepth 20000 in
theorem cf_X6_67 : ∀ w ∈ ([.static yX8_isIn, .initialized yX8_isIn.cls] : List Cond), w ∈ TT := TT_by [333, 28] (by decide +kernel) rfl
set_option maxRecDepth 20000 in
theorem cd_X6_setAwake : Cond.code yX6_setAwake cX6_setAwake 3 (some .boolean) ∈ TT := TT_mem 364 (by decide +kernel) rfl
set_option maxRecDepth 20000 in
theorem dd_X6_setAwake : yX6_setAwake.cls ≠ "java/lang/invoke/MethodHandle" ∧ yX6_setAwake.cls ≠ "java/lang/invoke/VarHandle" ∧ (parseMethodDescriptor yX6_setAwake.desc).map (fun d => d.parameters.length) = some 2 := by decide +kernel
set_option maxRecDepth 20000 in
theorem cd_X6_tire : Cond.code yX6_tire cX6_tire 2 none ∈ TT := TT_mem 572 (by decide +kernel) rfl
set_option maxRecDepth 20000 in
theorem dd_X6_tire : yX6_tire.cls ≠ "java/lang/invoke/MethodHandle" ∧ yX6_tire.cls ≠ "java/lang/invoke/VarHandle" ∧ (parseMethodDescriptor yX6_tire.desc).map (fun d => d.parameters.length) = some 1 := by decide +kernel
set_option maxRecDepth 20000 in
theorem ld_X6_70 : Cond.constantLong RX6 70 (-1) ∈ TT := TT_mem 434 (by decide +kernel) rfl
set_option maxRecDepth 20000 in
theorem cd_X6_listening : Cond.code yX6_listening cX6_listening 1 (some .long) ∈ TT := TT_mem 342 (by decide +kernel) rfl
set_option maxRecDepth 20000 in
theorem dd_X6_listening : yX6_listening.cls ≠ "java/lang/invoke/MethodHandle" ∧ yX6_listening.cls ≠ "java/lang/invoke/VarHandle" ∧ (parseMethodDescriptor yX6_listening.desc).map (fun d => d.parameters.length) = some 0 := by decide +kernel
set_option maxRecDepth 20000 in
theorem cd_X6_asked : Cond.code yX6_asked cX6_asked 1 (some .long) ∈ TT := TT_mem 432 (by decide +kernel) rfl
set_option maxRecDepth 20000 in
theorem dd_X6_asked : yX6_asked.cls ≠ "java/lang/invoke/MethodHandle" ∧ yX6_asked.cls ≠ "java/lang/invoke/VarHandle" ∧ (parseMethodDescriptor yX6_asked.desc).map (fun d => d.parameters.length) = some 0 := by decide +kernel
set_option maxRecDepth 20000 in
theorem cf_X6_72 : ∀ w ∈ ([.methodLink RX6 72 yX6_listening, .instanceMethod yX6_listening, .selects yX6_listening.cls yX6_listening yX6_listening, .initialized yX6_listening.cls] : List Cond), w ∈ TT := TT_by [433, 340, 341, 30] (by decide +kernel) rfl
set_option maxRecDepth 20000 in
theorem cd_X6_slotted : Cond.code yX6_slotted cX6_slotted 1 (some .long) ∈ TT := TT_mem 591 (by decide +kernel) rfl
set_option maxRecDepth 20000 in
theorem dd_X6_slotted : yX6_slotted.cls ≠ "java/lang/invoke/MethodHandle" ∧ yX6_slotted.cls ≠ "java/lang/invoke/VarHandle" ∧ (parseMethodDescriptor yX6_slotted.desc).map (fun d => d.parameters.length) = some 0 := by decide +kernel
set_option maxRecDepth 20000 in
theorem cd_X6_splitting : Cond.code yX6_splitting cX6_splitting 1 (some .long) ∈ TT := TT_mem 518 (by decide +kernel) rfl
set_option maxRecDepth 20000 in
theorem dd_X6_splitting : yX6_splitting.cls ≠ "java/lang/invoke/MethodHandle" ∧ yX6_splitting.cls ≠ "java/lang/invoke/VarHandle" ∧ (parseMethodDescriptor yX6_splitting.desc).map (fun d => d.parameters.length) = some 0 := by decide +kernel
set_option maxRecDepth 20000 in
theorem cd_X6_tellingOne : Cond.code yX6_tellingOne cX6_tellingOne 4 (some .long) ∈ TT := TT_mem 386 (by decide +kernel) rfl
set_option maxRecDepth 20000 in
theorem dd_X6_tellingOne : yX6_tellingOne.cls ≠ "java/lang/invoke/MethodHandle" ∧ yX6_tellingOne.cls ≠ "java/lang/invoke/VarHandle" ∧ (parseMethodDescriptor yX6_tellingOne.desc).map (fun d => d.parameters.length) = some 2 := by decide +kernel
set_option maxRecDepth 20000 in
theorem cd_X6_beginningWith : Cond.code yX6_beginningWith cX6_beginningWith 9 (some .long) ∈ TT := TT_mem 428 (by decide +kernel) rfl
set_option maxRecDepth 20000 in
theorem dd_X6_beginningWith : yX6_beginningWith.cls ≠ "java/lang/invoke/MethodHandle" ∧ yX6_beginningWith.cls ≠ "java/lang/invoke/VarHandle" ∧ (parseMethodDescriptor yX6_beginningWith.desc).map (fun d => d.parameters.length) = some 2 := by decide +kernel
set_option maxRecDepth 20000 in
theorem cf_X6_76 : ∀ w ∈ ([.methodLink RX6 76 yX6_asked, .instanceMethod yX6_asked, .selects yX6_asked.cls yX6_asked yX6_asked, .initialized yX6_asked.cls] : List Cond), w ∈ TT := TT_by [429, 430, 431, 30] (by decide +kernel) rfl
set_option maxRecDepth 20000 in
theorem cf_X6_79 : ∀ w ∈ ([.methodLink RX6 79 yX6_tellingOne, .instanceMethod yX6_tellingOne, .selects yX6_tellingOne.cls yX6_tellingOne yX6_tellingOne, .initialized yX6_tellingOne.cls] : List Cond), w ∈ TT := TT_by [435, 384, 385, 30] (by decide +kernel) rfl
set_option maxRecDepth 20000 in
theorem cd_X6_draw : Cond.code yX6_draw cX6_draw 3 (some .int) ∈ TT := TT_mem 553 (by decide +kernel) rfl
set_option maxRecDepth 20000 in
theorem dd_X6_draw : yX6_draw.cls ≠ "java/lang/invoke/MethodHandle" ∧ yX6_draw.cls ≠ "java/lang/invoke/VarHandle" ∧ (parseMethodDescriptor yX6_draw.desc).map (fun d => d.parameters.length) = some 2 := by decide +kernel
set_option maxRecDepth 20000 in
theorem cf_X6_83 : ∀ w ∈ ([.methodLink RX6 83 yX6_has, .instanceMethod yX6_has, .selects yX6_has.cls yX6_has yX6_has, .initialized yX6_has.cls] : List Cond), w ∈ TT := TT_by [554, 320, 321, 30] (by decide +kernel) rfl
set_option maxRecDepth 20000 in
theorem ld_X6_87 : Cond.constant RX6 87 (1103515245) ∈ TT := TT_mem 555 (by decide +kernel) rfl
set_option maxRecDepth 20000 in
theorem cd_X6_copyFrom : Cond.code yX6_copyFrom cX6_copyFrom 2 none ∈ TT := TT_mem 644 (by decide +kernel) rfl
set_option maxRecDepth 20000 in
theorem dd_X6_copyFrom : yX6_copyFrom.cls ≠ "java/lang/invoke/MethodHandle" ∧ yX6_copyFrom.cls ≠ "java/lang/invoke/VarHandle" ∧ (parseMethodDescriptor yX6_copyFrom.desc).map (fun d => d.parameters.length) = some 1 := by decide +kernel
set_option maxRecDepth 20000 in
theorem cf_X6_88 : ∀ w ∈ ([.methodLink RX6 88 arraycopyName, .native arraycopyName, .static arraycopyName, .initialized "java/lang/System"] : List Cond), w ∈ TT := TT_by [645, 506, 505, 39] (by decide +kernel) rfl
set_option maxRecDepth 20000 in
theorem cd_X7_init : Cond.code yX7_init cX7_init 1 none ∈ TT := TT_mem 188 (by decide +kernel) rfl
set_option maxRecDepth 20000 in
theorem dd_X7_init : yX7_init.cls ≠ "java/lang/invoke/MethodHandle" ∧ yX7_init.cls ≠ "java/lang/invoke/VarHandle" ∧ (parseMethodDescriptor yX7_init.desc).map (fun d => d.parameters.length) = some 0 := by decide +kernel
set_option maxRecDepth 20000 in
theorem cf_X7_3 : ∀ w ∈ ([.methodLink RX7 3 objectInit, .instanceMethod objectInit, .code objectInit ⟨#[0xb1]⟩ 1 none] : List Cond), w ∈ TT := TT_by [189, 48, 49] (by decide +kernel) rfl
set_option maxRecDepth 20000 in
theorem fl_X7_9 : Cond.fieldLink RX7 9 (TX7 0).1 (TX7 0).2.1 (TX7 0).2.2.1 ∈ TT := TT_mem 190 (by decide +kernel) rfl
set_option maxRecDepth 20000 in
theorem cd_X7_addFound : Cond.code yX7_addFound cX7_addFound 2 none ∈ TT := TT_mem 412 (by decide +kernel) rfl
set_option maxRecDepth 20000 in
theorem dd_X7_addFound : yX7_addFound.cls ≠ "java/lang/invoke/MethodHandle" ∧ yX7_addFound.cls ≠ "java/lang/invoke/VarHandle" ∧ (parseMethodDescriptor yX7_addFound.desc).map (fun d => d.parameters.length) = some 1 := by decide +kernel
set_option maxRecDepth 20000 in
theorem fl_X7_15 : Cond.fieldLink RX7 15 (TX7 1).1 (TX7 1).2.1 (TX7 1).2.2.1 ∈ TT := TT_mem 191 (by decide +kernel) rfl
set_option maxRecDepth 20000 in
theorem cd_X7_foundAt : Cond.code yX7_foundAt cX7_foundAt 2 (some .int) ∈ TT := TT_mem 620 (by decide +kernel) rfl
set_option maxRecDepth 20000 in
theorem dd_X7_foundAt : yX7_foundAt.cls ≠ "java/lang/invoke/MethodHandle" ∧ yX7_foundAt.cls ≠ "java/lang/invoke/VarHandle" ∧ (parseMethodDescriptor yX7_foundAt.desc).map (fun d => d.parameters.length) = some 1 := by decide +kernel
set_option maxRecDepth 20000 in
theorem cd_X7_timesFound : Cond.code yX7_timesFound cX7_timesFound 4 (some .int) ∈ TT := TT_mem 351 (by decide +kernel) rfl
set_option maxRecDepth 20000 in
theorem dd_X7_timesFound : yX7_timesFound.cls ≠ "java/lang/invoke/MethodHandle" ∧ yX7_timesFound.cls ≠ "java/lang/invoke/VarHandle" ∧ (parseMethodDescriptor yX7_timesFound.desc).map (fun d => d.parameters.length) = some 1 := by decide +kernel
set_option maxRecDepth 20000 in
theorem cd_X7_addSlot : Cond.code yX7_addSlot cX7_addSlot 2 none ∈ TT := TT_mem 450 (by decide +kernel) rfl
set_option maxRecDepth 20000 in
theorem dd_X7_addSlot : yX7_addSlot.cls ≠ "java/lang/invoke/MethodHandle" ∧ yX7_addSlot.cls ≠ "java/lang/invoke/VarHandle" ∧ (parseMethodDescriptor yX7_addSlot.desc).map (fun d => d.parameters.length) = some 1 := by decide +kernel
set_option maxRecDepth 20000 in
theorem fl_X7_19 : Cond.fieldLink RX7 19 (TX7 2).1 (TX7 2).2.1 (TX7 2).2.2.1 ∈ TT := TT_mem 193 (by decide +kernel) rfl
set_option maxRecDepth 20000 in
theorem fl_X7_22 : Cond.fieldLink RX7 22 (TX7 3).1 (TX7 3).2.1 (TX7 3).2.2.1 ∈ TT := TT_mem 195 (by decide +kernel) rfl
set_option maxRecDepth 20000 in
theorem fl_X7_25 : Cond.fieldLink RX7 25 (TX7 4).1 (TX7 4).2.1 (TX7 4).2.2.1 ∈ TT := TT_mem 197 (by decide +kernel) rfl
set_option maxRecDepth 20000 in
theorem cd_X7_addPassSlots : Cond.code yX7_addPassSlots cX7_addPassSlots 2 none ∈ TT := TT_mem 396 (by decide +kernel) rfl
set_option maxRecDepth 20000 in
theorem dd_X7_addPassSlots : yX7_addPassSlots.cls ≠ "java/lang/invoke/MethodHandle" ∧ yX7_addPassSlots.cls ≠ "java/lang/invoke/VarHandle" ∧ (parseMethodDescriptor yX7_addPassSlots.desc).map (fun d => d.parameters.length) = some 1 := by decide +kernel
set_option maxRecDepth 20000 in
theorem fl_X7_28 : Cond.fieldLink RX7 28 (TX7 5).1 (TX7 5).2.1 (TX7 5).2.2.1 ∈ TT := TT_mem 199 (by decide +kernel) rfl
set_option maxRecDepth 20000 in
theorem cd_X7_allSlots : Cond.code yX7_allSlots cX7_allSlots 1 (some .int) ∈ TT := TT_mem 628 (by decide +kernel) rfl
set_option maxRecDepth 20000 in
theorem dd_X7_allSlots : yX7_allSlots.cls ≠ "java/lang/invoke/MethodHandle" ∧ yX7_allSlots.cls ≠ "java/lang/invoke/VarHandle" ∧ (parseMethodDescriptor yX7_allSlots.desc).map (fun d => d.parameters.length) = some 0 := by decide +kernel
set_option maxRecDepth 20000 in
theorem cd_X7_copyFrom : Cond.code yX7_copyFrom cX7_copyFrom 2 none ∈ TT := TT_mem 667 (by decide +kernel) rfl
set_option maxRecDepth 20000 in
theorem dd_X7_copyFrom : yX7_copyFrom.cls ≠ "java/lang/invoke/MethodHandle" ∧ yX7_copyFrom.cls ≠ "java/lang/invoke/VarHandle" ∧ (parseMethodDescriptor yX7_copyFrom.desc).map (fun d => d.parameters.length) = some 1 := by decide +kernel
set_option maxRecDepth 20000 in
theorem cf_X7_31 : ∀ w ∈ ([.methodLink RX7 31 arraycopyName, .native arraycopyName, .static arraycopyName, .initialized "java/lang/System"] : List Cond), w ∈ TT := TT_by [668, 506, 505, 39] (by decide +kernel) rfl
set_option maxRecDepth 20000 in
theorem nw_L_7 : ∀ w ∈ ([.classLink RL 7 RX8, .instantiable RX8 4, .initialized RX8] : List Cond), w ∈ TT := TT_by [42, 43, 28] (by decide +kernel) rfl
set_option maxRecDepth 20000 in
theorem cf_L_9 : ∀ w ∈ ([.methodLink RL 9 yX8_init, .instanceMethod yX8_init, .initialized yX8_init.cls] : List Cond), w ∈ TT := TT_by [44, 45, 28] (by decide +kernel) rfl
set_option maxRecDepth 20000 in
theorem nw_L_10 : ∀ w ∈ ([.classLink RL 10 RX9, .instantiable RX9 9, .initialized RX9] : List Cond), w ∈ TT := TT_by [673, 674, 37] (by decide +kernel) rfl
set_option maxRecDepth 20000 in
theorem cf_L_12 : ∀ w ∈ ([.methodLink RL 12 yX9_init, .instanceMethod yX9_init, .initialized yX9_init.cls] : List Cond), w ∈ TT := TT_by [675, 676, 37] (by decide +kernel) rfl
set_option maxRecDepth 20000 in
theorem cf_L_13 : ∀ w ∈ ([.methodLink RL 13 yX8_wire, .instanceMethod yX8_wire, .selects yX8_wire.cls yX8_wire yX8_wire, .initialized yX8_wire.cls] : List Cond), w ∈ TT := TT_by [281, 282, 283, 28] (by decide +kernel) rfl
set_option maxRecDepth 20000 in
theorem cf_L_17 : ∀ w ∈ ([.methodLink RL 17 yX9_wire, .instanceMethod yX9_wire, .selects yX9_wire.cls yX9_wire yX9_wire, .initialized yX9_wire.cls] : List Cond), w ∈ TT := TT_by [708, 709, 710, 37] (by decide +kernel) rfl
set_option maxRecDepth 20000 in
theorem ld_L_18 : Cond.constantLong RL 18 (4294967295) ∈ TT := TT_mem 890 (by decide +kernel) rfl
set_option maxRecDepth 20000 in
theorem cf_L_20 : ∀ w ∈ ([.methodLink RL 20 yX8_tag, .instanceMethod yX8_tag, .selects yX8_tag.cls yX8_tag yX8_tag, .initialized yX8_tag.cls] : List Cond), w ∈ TT := TT_by [285, 286, 287, 28] (by decide +kernel) rfl
set_option maxRecDepth 20000 in
theorem cf_L_24 : ∀ w ∈ ([.methodLink RL 24 yX9_tag, .instanceMethod yX9_tag, .selects yX9_tag.cls yX9_tag yX9_tag, .initialized yX9_tag.cls] : List Cond), w ∈ TT := TT_by [715, 716, 717, 37] (by decide +kernel) rfl
set_option maxRecDepth 20000 in
theorem cf_L_25 : ∀ w ∈ ([.methodLink RL 25 yX8_name, .instanceMethod yX8_name, .selects yX8_name.cls yX8_name yX8_name, .initialized yX8_name.cls] : List Cond), w ∈ TT := TT_by [315, 316, 317, 28] (by decide +kernel) rfl
set_option maxRecDepth 20000 in
theorem cf_L_29 : ∀ w ∈ ([.methodLink RL 29 yX9_name, .instanceMethod yX9_name, .selects yX9_name.cls yX9_name yX9_name, .initialized yX9_name.cls] : List Cond), w ∈ TT := TT_by [729, 730, 731, 37] (by decide +kernel) rfl
set_option maxRecDepth 20000 in
theorem cf_L_30 : ∀ w ∈ ([.methodLink RL 30 yX8_isName, .instanceMethod yX8_isName, .selects yX8_isName.cls yX8_isName yX8_isName, .initialized yX8_isName.cls] : List Cond), w ∈ TT := TT_by [323, 324, 325, 28] (by decide +kernel) rfl
set_option maxRecDepth 20000 in
theorem cf_L_34 : ∀ w ∈ ([.methodLink RL 34 yX9_isName, .instanceMethod yX9_isName, .selects yX9_isName.cls yX9_isName yX9_isName, .initialized yX9_isName.cls] : List Cond), w ∈ TT := TT_by [737, 738, 739, 37] (by decide +kernel) rfl
set_option maxRecDepth 20000 in
theorem cf_L_35 : ∀ w ∈ ([.methodLink RL 35 yX8_tell, .instanceMethod yX8_tell, .selects yX8_tell.cls yX8_tell yX8_tell, .initialized yX8_tell.cls] : List Cond), w ∈ TT := TT_by [328, 329, 330, 28] (by decide +kernel) rfl
set_option maxRecDepth 20000 in
theorem cf_L_39 : ∀ w ∈ ([.methodLink RL 39 yX9_tell, .instanceMethod yX9_tell, .selects yX9_tell.cls yX9_tell yX9_tell, .initialized yX9_tell.cls] : List Cond), w ∈ TT := TT_by [742, 743, 744, 37] (by decide +kernel) rfl
set_option maxRecDepth 20000 in
theorem cf_L_40 : ∀ w ∈ ([.methodLink RL 40 yX8_act, .instanceMethod yX8_act, .selects yX8_act.cls yX8_act yX8_act, .initialized yX8_act.cls] : List Cond), w ∈ TT := TT_by [352, 353, 354, 28] (by decide +kernel) rfl
set_option maxRecDepth 20000 in
theorem cf_L_44 : ∀ w ∈ ([.methodLink RL 44 yX9_act, .instanceMethod yX9_act, .selects yX9_act.cls yX9_act yX9_act, .initialized yX9_act.cls] : List Cond), w ∈ TT := TT_by [754, 755, 756, 37] (by decide +kernel) rfl
set_option maxRecDepth 20000 in
theorem cf_L_45 : ∀ w ∈ ([.methodLink RL 45 yX8_group, .instanceMethod yX8_group, .selects yX8_group.cls yX8_group yX8_group, .initialized yX8_group.cls] : List Cond), w ∈ TT := TT_by [365, 366, 367, 28] (by decide +kernel) rfl
set_option maxRecDepth 20000 in
theorem cf_L_49 : ∀ w ∈ ([.methodLink RL 49 yX9_group, .instanceMethod yX9_group, .selects yX9_group.cls yX9_group yX9_group, .initialized yX9_group.cls] : List Cond), w ∈ TT := TT_by [758, 759, 760, 37] (by decide +kernel) rfl
set_option maxRecDepth 20000 in
theorem cf_L_50 : ∀ w ∈ ([.methodLink RL 50 yX8_pass, .instanceMethod yX8_pass, .selects yX8_pass.cls yX8_pass yX8_pass, .initialized yX8_pass.cls] : List Cond), w ∈ TT := TT_by [379, 380, 381, 28] (by decide +kernel) rfl
set_option maxRecDepth 20000 in
theorem cf_L_54 : ∀ w ∈ ([.methodLink RL 54 yX9_pass, .instanceMethod yX9_pass, .selects yX9_pass.cls yX9_pass yX9_pass, .initialized yX9_pass.cls] : List Cond), w ∈ TT := TT_by [766, 767, 768, 37] (by decide +kernel) rfl
set_option maxRecDepth 20000 in
theorem cf_L_55 : ∀ w ∈ ([.methodLink RL 55 yX8_fork, .instanceMethod yX8_fork, .selects yX8_fork.cls yX8_fork yX8_fork, .initialized yX8_fork.cls] : List Cond), w ∈ TT := TT_by [413, 414, 415, 28] (by decide +kernel) rfl
set_option maxRecDepth 20000 in
theorem cf_L_59 : ∀ w ∈ ([.methodLink RL 59 yX9_fork, .instanceMethod yX9_fork, .selects yX9_fork.cls yX9_fork yX9_fork, .initialized yX9_fork.cls] : List Cond), w ∈ TT := TT_by [790, 791, 792, 37] (by decide +kernel) rfl
set_option maxRecDepth 20000 in
theorem cf_L_60 : ∀ w ∈ ([.methodLink RL 60 yX8_verify, .instanceMethod yX8_verify, .selects yX8_verify.cls yX8_verify yX8_verify, .initialized yX8_verify.cls] : List Cond), w ∈ TT := TT_by [417, 418, 419, 28] (by decide +kernel) rfl
set_option maxRecDepth 20000 in
theorem cf_L_63 : ∀ w ∈ ([.methodLink RL 63 yX9_verify, .instanceMethod yX9_verify, .selects yX9_verify.cls yX9_verify yX9_verify, .initialized yX9_verify.cls] : List Cond), w ∈ TT := TT_by [794, 795, 796, 37] (by decide +kernel) rfl
set_option maxRecDepth 20000 in
theorem cf_L_64 : ∀ w ∈ ([.methodLink RL 64 yX8_ask, .instanceMethod yX8_ask, .selects yX8_ask.cls yX8_ask yX8_ask, .initialized yX8_ask.cls] : List Cond), w ∈ TT := TT_by [421, 422, 423, 28] (by decide +kernel) rfl
set_option maxRecDepth 20000 in
theorem cf_L_68 : ∀ w ∈ ([.methodLink RL 68 yX9_ask, .instanceMethod yX9_ask, .selects yX9_ask.cls yX9_ask yX9_ask, .initialized yX9_ask.cls] : List Cond), w ∈ TT := TT_by [798, 799, 800, 37] (by decide +kernel) rfl
set_option maxRecDepth 20000 in
theorem cf_L_69 : ∀ w ∈ ([.methodLink RL 69 yX8_alone, .instanceMethod yX8_alone, .selects yX8_alone.cls yX8_alone yX8_alone, .initialized yX8_alone.cls] : List Cond), w ∈ TT := TT_by [451, 452, 453, 28] (by decide +kernel) rfl
set_option maxRecDepth 20000 in
theorem cf_L_72 : ∀ w ∈ ([.methodLink RL 72 yX9_alone, .instanceMethod yX9_alone, .selects yX9_alone.cls yX9_alone yX9_alone, .initialized yX9_alone.cls] : List Cond), w ∈ TT := TT_by [817, 818, 819, 37] (by decide +kernel) rfl
set_option maxRecDepth 20000 in
theorem cf_L_73 : ∀ w ∈ ([.methodLink RL 73 yX8_descend, .instanceMethod yX8_descend, .selects yX8_descend.cls yX8_descend yX8_descend, .initialized yX8_descend.cls] : List Cond), w ∈ TT := TT_by [455, 456, 457, 28] (by decide +kernel) rfl
set_option maxRecDepth 20000 in
theorem cf_L_76 : ∀ w ∈ ([.methodLink RL 76 yX9_descend, .instanceMethod yX9_descend, .selects yX9_descend.cls yX9_descend yX9_descend, .initialized yX9_descend.cls] : List Cond), w ∈ TT := TT_by [821, 822, 823, 37] (by decide +kernel) rfl
set_option maxRecDepth 20000 in
theorem cf_L_77 : ∀ w ∈ ([.methodLink RL 77 yX8_step, .instanceMethod yX8_step, .selects yX8_step.cls yX8_step yX8_step, .initialized yX8_step.cls] : List Cond), w ∈ TT := TT_by [467, 468, 469, 28] (by decide +kernel) rfl
set_option maxRecDepth 20000 in
theorem cf_L_80 : ∀ w ∈ ([.methodLink RL 80 yX9_step, .instanceMethod yX9_step, .selects yX9_step.cls yX9_step yX9_step, .initialized yX9_step.cls] : List Cond), w ∈ TT := TT_by [829, 830, 831, 37] (by decide +kernel) rfl
set_option maxRecDepth 20000 in
theorem cf_L_81 : ∀ w ∈ ([.methodLink RL 81 yX8_nodes, .instanceMethod yX8_nodes, .selects yX8_nodes.cls yX8_nodes yX8_nodes, .initialized yX8_nodes.cls] : List Cond), w ∈ TT := TT_by [487, 488, 489, 28] (by decide +kernel) rfl
set_option maxRecDepth 20000 in
theorem cf_L_84 : ∀ w ∈ ([.methodLink RL 84 yX9_nodes, .instanceMethod yX9_nodes, .selects yX9_nodes.cls yX9_nodes yX9_nodes, .initialized yX9_nodes.cls] : List Cond), w ∈ TT := TT_by [833, 834, 835, 37] (by decide +kernel) rfl
set_option maxRecDepth 20000 in
theorem cf_L_85 : ∀ w ∈ ([.methodLink RL 85 yX8_begin, .instanceMethod yX8_begin, .selects yX8_begin.cls yX8_begin yX8_begin, .initialized yX8_begin.cls] : List Cond), w ∈ TT := TT_by [511, 512, 513, 28] (by decide +kernel) rfl
set_option maxRecDepth 20000 in
theorem cf_L_88 : ∀ w ∈ ([.methodLink RL 88 yX9_begin, .instanceMethod yX9_begin, .selects yX9_begin.cls yX9_begin yX9_begin, .initialized yX9_begin.cls] : List Cond), w ∈ TT := TT_by [837, 838, 839, 37] (by decide +kernel) rfl
set_option maxRecDepth 20000 in
theorem cf_L_89 : ∀ w ∈ ([.methodLink RL 89 yX8_split, .instanceMethod yX8_split, .selects yX8_split.cls yX8_split yX8_split, .initialized yX8_split.cls] : List Cond), w ∈ TT := TT_by [526, 527, 528, 28] (by decide +kernel) rfl
set_option maxRecDepth 20000 in
theorem cf_L_92 : ∀ w ∈ ([.methodLink RL 92 yX9_split, .instanceMethod yX9_split, .selects yX9_split.cls yX9_split yX9_split, .initialized yX9_split.cls] : List Cond), w ∈ TT := TT_by [845, 846, 847, 37] (by decide +kernel) rfl
set_option maxRecDepth 20000 in
theorem cf_L_93 : ∀ w ∈ ([.methodLink RL 93 yX8_frames, .instanceMethod yX8_frames, .selects yX8_frames.cls yX8_frames yX8_frames, .initialized yX8_frames.cls] : List Cond), w ∈ TT := TT_by [573, 574, 575, 28] (by decide +kernel) rfl
set_option maxRecDepth 20000 in
theorem cf_L_96 : ∀ w ∈ ([.methodLink RL 96 yX9_frames, .instanceMethod yX9_frames, .selects yX9_frames.cls yX9_frames yX9_frames, .initialized yX9_frames.cls] : List Cond), w ∈ TT := TT_by [858, 859, 860, 37] (by decide +kernel) rfl
set_option maxRecDepth 20000 in
theorem cf_L_97 : ∀ w ∈ ([.methodLink RL 97 yX8_frame, .instanceMethod yX8_frame, .selects yX8_frame.cls yX8_frame yX8_frame, .initialized yX8_frame.cls] : List Cond), w ∈ TT := TT_by [577, 578, 579, 28] (by decide +kernel) rfl
set_option maxRecDepth 20000 in
theorem cf_L_100 : ∀ w ∈ ([.methodLink RL 100 yX9_frame, .instanceMethod yX9_frame, .selects yX9_frame.cls yX9_frame yX9_frame, .initialized yX9_frame.cls] : List Cond), w ∈ TT := TT_by [862, 863, 864, 37] (by decide +kernel) rfl
set_option maxRecDepth 20000 in
theorem cf_L_101 : ∀ w ∈ ([.methodLink RL 101 yX8_heard, .instanceMethod yX8_heard, .selects yX8_heard.cls yX8_heard yX8_heard, .initialized yX8_heard.cls] : List Cond), w ∈ TT := TT_by [609, 610, 611, 28] (by decide +kernel) rfl
set_option maxRecDepth 20000 in
theorem cf_L_104 : ∀ w ∈ ([.methodLink RL 104 yX9_heard, .instanceMethod yX9_heard, .selects yX9_heard.cls yX9_heard yX9_heard, .initialized yX9_heard.cls] : List Cond), w ∈ TT := TT_by [866, 867, 868, 37] (by decide +kernel) rfl
set_option maxRecDepth 20000 in
theorem cf_L_105 : ∀ w ∈ ([.methodLink RL 105 yX8_found, .instanceMethod yX8_found, .selects yX8_found.cls yX8_found yX8_found, .initialized yX8_found.cls] : List Cond), w ∈ TT := TT_by [613, 614, 615, 28] (by decide +kernel) rfl
set_option maxRecDepth 20000 in
theorem cf_L_108 : ∀ w ∈ ([.methodLink RL 108 yX9_found, .instanceMethod yX9_found, .selects yX9_found.cls yX9_found yX9_found, .initialized yX9_found.cls] : List Cond), w ∈ TT := TT_by [870, 871, 872, 37] (by decide +kernel) rfl
set_option maxRecDepth 20000 in
theorem cf_L_109 : ∀ w ∈ ([.methodLink RL 109 yX8_cost, .instanceMethod yX8_cost, .selects yX8_cost.cls yX8_cost yX8_cost, .initialized yX8_cost.cls] : List Cond), w ∈ TT := TT_by [621, 622, 623, 28] (by decide +kernel) rfl
set_option maxRecDepth 20000 in
theorem cf_L_112 : ∀ w ∈ ([.methodLink RL 112 yX9_cost, .instanceMethod yX9_cost, .selects yX9_cost.cls yX9_cost yX9_cost, .initialized yX9_cost.cls] : List Cond), w ∈ TT := TT_by [874, 875, 876, 37] (by decide +kernel) rfl
set_option maxRecDepth 20000 in
theorem cf_L_113 : ∀ w ∈ ([.methodLink RL 113 yX8_count, .instanceMethod yX8_count, .selects yX8_count.cls yX8_count yX8_count, .initialized yX8_count.cls] : List Cond), w ∈ TT := TT_by [629, 630, 631, 28] (by decide +kernel) rfl
set_option maxRecDepth 20000 in
theorem cf_L_116 : ∀ w ∈ ([.methodLink RL 116 yX9_count, .instanceMethod yX9_count, .selects yX9_count.cls yX9_count yX9_count, .initialized yX9_count.cls] : List Cond), w ∈ TT := TT_by [878, 879, 880, 37] (by decide +kernel) rfl
set_option maxRecDepth 20000 in
theorem cf_L_117 : ∀ w ∈ ([.methodLink RL 117 yX8_image, .instanceMethod yX8_image, .selects yX8_image.cls yX8_image yX8_image, .initialized yX8_image.cls] : List Cond), w ∈ TT := TT_by [633, 634, 635, 28] (by decide +kernel) rfl
set_option maxRecDepth 20000 in
theorem cf_L_120 : ∀ w ∈ ([.methodLink RL 120 yX9_image, .instanceMethod yX9_image, .selects yX9_image.cls yX9_image yX9_image, .initialized yX9_image.cls] : List Cond), w ∈ TT := TT_by [882, 883, 884, 37] (by decide +kernel) rfl
set_option maxRecDepth 20000 in
theorem cf_L_121 : ∀ w ∈ ([.methodLink RL 121 yX8_again, .instanceMethod yX8_again, .selects yX8_again.cls yX8_again yX8_again, .initialized yX8_again.cls] : List Cond), w ∈ TT := TT_by [669, 670, 671, 28] (by decide +kernel) rfl
set_option maxRecDepth 20000 in
theorem cf_L_124 : ∀ w ∈ ([.methodLink RL 124 yX9_again, .instanceMethod yX9_again, .selects yX9_again.cls yX9_again yX9_again, .initialized yX9_again.cls] : List Cond), w ∈ TT := TT_by [886, 887, 888, 37] (by decide +kernel) rfl
set_option maxRecDepth 20000 in
theorem cd_J13_bitCount_95d88 : Cond.code yJ13_bitCount_95d88 cJ13_bitCount_95d88 2 (some .int) ∈ TT := TT_mem 375 (by decide +kernel) rfl
set_option maxRecDepth 20000 in
theorem dd_J13_bitCount_95d88 : yJ13_bitCount_95d88.cls ≠ "java/lang/invoke/MethodHandle" ∧ yJ13_bitCount_95d88.cls ≠ "java/lang/invoke/VarHandle" ∧ (parseMethodDescriptor yJ13_bitCount_95d88.desc).map (fun d => d.parameters.length) = some 1 := by decide +kernel
set_option maxRecDepth 20000 in
theorem cd_J9_max_7cf53 : Cond.code yJ9_max_7cf53 cJ9_max_7cf53 2 (some .int) ∈ TT := TT_mem 545 (by decide +kernel) rfl
set_option maxRecDepth 20000 in
theorem dd_J9_max_7cf53 : yJ9_max_7cf53.cls ≠ "java/lang/invoke/MethodHandle" ∧ yJ9_max_7cf53.cls ≠ "java/lang/invoke/VarHandle" ∧ (parseMethodDescriptor yJ9_max_7cf53.desc).map (fun d => d.parameters.length) = some 2 := by decide +kernel
set_option maxRecDepth 20000 in
theorem cd_J9_min_7cf53 : Cond.code yJ9_min_7cf53 cJ9_min_7cf53 2 (some .int) ∈ TT := TT_mem 607 (by decide +kernel) rfl
set_option maxRecDepth 20000 in
theorem dd_J9_min_7cf53 : yJ9_min_7cf53.cls ≠ "java/lang/invoke/MethodHandle" ∧ yJ9_min_7cf53.cls ≠ "java/lang/invoke/VarHandle" ∧ (parseMethodDescriptor yJ9_min_7cf53.desc).map (fun d => d.parameters.length) = some 2 := by decide +kernel
set_option maxRecDepth 20000 in
theorem cd_J7_fill_53178 : Cond.code yJ7_fill_53178 cJ7_fill_53178 4 none ∈ TT := TT_mem 525 (by decide +kernel) rfl
set_option maxRecDepth 20000 in
theorem dd_J7_fill_53178 : yJ7_fill_53178.cls ≠ "java/lang/invoke/MethodHandle" ∧ yJ7_fill_53178.cls ≠ "java/lang/invoke/VarHandle" ∧ (parseMethodDescriptor yJ7_fill_53178.desc).map (fun d => d.parameters.length) = some 2 := by decide +kernel
set_option maxRecDepth 20000 in
theorem cd_J7_fill_d0a16 : Cond.code yJ7_fill_d0a16 cJ7_fill_d0a16 5 none ∈ TT := TT_mem 587 (by decide +kernel) rfl
set_option maxRecDepth 20000 in
theorem dd_J7_fill_d0a16 : yJ7_fill_d0a16.cls ≠ "java/lang/invoke/MethodHandle" ∧ yJ7_fill_d0a16.cls ≠ "java/lang/invoke/VarHandle" ∧ (parseMethodDescriptor yJ7_fill_d0a16.desc).map (fun d => d.parameters.length) = some 2 := by decide +kernel
set_option maxRecDepth 20000 in
theorem ld_J13_314 : Cond.constantLong RJ13 314 (6148914691236517205) ∈ TT := TT_mem 376 (by decide +kernel) rfl
set_option maxRecDepth 20000 in
theorem ld_J13_316 : Cond.constantLong RJ13 316 (3689348814741910323) ∈ TT := TT_mem 377 (by decide +kernel) rfl
set_option maxRecDepth 20000 in
theorem ld_J13_318 : Cond.constantLong RJ13 318 (1085102592571150095) ∈ TT := TT_mem 378 (by decide +kernel) rfl
set_option maxRecDepth 20000 in
theorem ac_int : Cond.arrayClass .int ∈ TT := TT_mem 103 (by decide +kernel) rfl
set_option maxRecDepth 20000 in
theorem ac_long : Cond.arrayClass .long ∈ TT := TT_mem 104 (by decide +kernel) rfl
set_option maxRecDepth 20000 in
theorem ac_boolean : Cond.arrayClass .boolean ∈ TT := TT_mem 707 (by decide +kernel) rfl
