theorem kw_0 : qz_cw 0 := ⟨_, rfl, rfl, by decide, List.forall_mem_cons.mpr ⟨wt_356, List.forall_mem_cons.mpr ⟨wt_358, List.forall_mem_cons.mpr ⟨wt_360, List.forall_mem_cons.mpr ⟨wt_362, List.forall_mem_cons.mpr ⟨wt_364, List.forall_mem_cons.mpr ⟨wt_366, List.forall_mem_cons.mpr ⟨wt_368, List.forall_mem_cons.mpr ⟨wt_370, List.forall_mem_cons.mpr ⟨wt_372, (fun _ z => by cases z)⟩⟩⟩⟩⟩⟩⟩⟩⟩, by decide +kernel, by decide +kernel, by decide +kernel⟩
theorem kg_0 : qz_cg 0 := Or.inl kw_0
theorem kw_1 : qz_cw 1 := ⟨_, rfl, rfl, by decide, List.forall_mem_cons.mpr ⟨wt_302, List.forall_mem_cons.mpr ⟨wt_304, List.forall_mem_cons.mpr ⟨wt_306, List.forall_mem_cons.mpr ⟨wt_308, List.forall_mem_cons.mpr ⟨wt_310, List.forall_mem_cons.mpr ⟨wt_312, List.forall_mem_cons.mpr ⟨wt_314, List.forall_mem_cons.mpr ⟨wt_316, (fun _ z => by cases z)⟩⟩⟩⟩⟩⟩⟩⟩, by decide +kernel, by decide +kernel, by decide +kernel⟩
theorem kg_1 : qz_cg 1 := Or.inl kw_1
theorem kw_2 : qz_cw 2 := ⟨_, rfl, rfl, by decide, List.forall_mem_cons.mpr ⟨wt_329, List.forall_mem_cons.mpr ⟨wt_331, List.forall_mem_cons.mpr ⟨wt_333, (fun _ z => by cases z)⟩⟩⟩, by decide +kernel, by decide +kernel, by decide +kernel⟩
theorem kg_2 : qz_cg 2 := Or.inl kw_2
theorem kw_3 : qz_cw 3 := ⟨_, rfl, rfl, by decide, List.forall_mem_cons.mpr ⟨wt_282, List.forall_mem_cons.mpr ⟨wt_284, List.forall_mem_cons.mpr ⟨wt_286, List.forall_mem_cons.mpr ⟨wt_288, List.forall_mem_cons.mpr ⟨wt_290, (fun _ z => by cases z)⟩⟩⟩⟩⟩, by decide +kernel, by decide +kernel, by decide +kernel⟩
theorem kg_3 : qz_cg 3 := Or.inl kw_3
theorem kw_4 : qz_cw 4 := ⟨_, rfl, rfl, by decide, List.forall_mem_cons.mpr ⟨wt_100, List.forall_mem_cons.mpr ⟨wt_102, List.forall_mem_cons.mpr ⟨wt_104, List.forall_mem_cons.mpr ⟨wt_106, List.forall_mem_cons.mpr ⟨wt_108, List.forall_mem_cons.mpr ⟨wt_110, (fun _ z => by cases z)⟩⟩⟩⟩⟩⟩, by decide +kernel, by decide +kernel, by decide +kernel⟩
theorem kg_4 : qz_cg 4 := Or.inl kw_4
theorem kw_5 : qz_cw 5 := ⟨_, rfl, rfl, by decide, List.forall_mem_cons.mpr ⟨wt_206, List.forall_mem_cons.mpr ⟨wt_208, List.forall_mem_cons.mpr ⟨wt_210, List.forall_mem_cons.mpr ⟨wt_212, List.forall_mem_cons.mpr ⟨wt_214, (fun _ z => by cases z)⟩⟩⟩⟩⟩, by decide +kernel, by decide +kernel, by decide +kernel⟩
theorem kg_5 : qz_cg 5 := Or.inl kw_5
theorem kw_6 : qz_cw 6 := ⟨_, rfl, rfl, by decide, List.forall_mem_cons.mpr ⟨wt_142, List.forall_mem_cons.mpr ⟨wt_144, List.forall_mem_cons.mpr ⟨wt_146, List.forall_mem_cons.mpr ⟨wt_148, List.forall_mem_cons.mpr ⟨wt_150, (fun _ z => by cases z)⟩⟩⟩⟩⟩, by decide +kernel, by decide +kernel, by decide +kernel⟩
theorem kg_6 : qz_cg 6 := Or.inl kw_6
theorem kg_7 : qz_cg 7 := Or.inr ⟨by decide, by decide, _, rfl, rfl⟩
theorem kw_8 : qz_cw 8 := ⟨_, rfl, rfl, by decide, List.forall_mem_cons.mpr ⟨wt_344, (fun _ z => by cases z)⟩, by decide +kernel, by decide +kernel, by decide +kernel⟩
theorem kg_8 : qz_cg 8 := Or.inl kw_8
theorem kw_9 : qz_cw 9 := ⟨_, rfl, rfl, by decide, List.forall_mem_cons.mpr ⟨wt_228, List.forall_mem_cons.mpr ⟨wt_230, List.forall_mem_cons.mpr ⟨wt_232, List.forall_mem_cons.mpr ⟨wt_234, List.forall_mem_cons.mpr ⟨wt_236, List.forall_mem_cons.mpr ⟨wt_238, List.forall_mem_cons.mpr ⟨wt_240, List.forall_mem_cons.mpr ⟨wt_242, List.forall_mem_cons.mpr ⟨wt_244, List.forall_mem_cons.mpr ⟨wt_246, (fun _ z => by cases z)⟩⟩⟩⟩⟩⟩⟩⟩⟩⟩, by decide +kernel, by decide +kernel, by decide +kernel⟩
theorem kg_9 : qz_cg 9 := Or.inl kw_9
theorem kw_10 : qz_cw 10 := ⟨_, rfl, rfl, by decide, List.forall_mem_cons.mpr ⟨wt_177, List.forall_mem_cons.mpr ⟨wt_179, List.forall_mem_cons.mpr ⟨wt_181, List.forall_mem_cons.mpr ⟨wt_183, List.forall_mem_cons.mpr ⟨wt_185, List.forall_mem_cons.mpr ⟨wt_187, (fun _ z => by cases z)⟩⟩⟩⟩⟩⟩, by decide +kernel, by decide +kernel, by decide +kernel⟩
theorem kg_10 : qz_cg 10 := Or.inl kw_10
theorem kw_11 : qz_cw 11 := ⟨_, rfl, rfl, by decide, List.forall_mem_cons.mpr ⟨wt_47, List.forall_mem_cons.mpr ⟨wt_49, (fun _ z => by cases z)⟩⟩, by decide +kernel, by decide +kernel, by decide +kernel⟩
theorem kg_11 : qz_cg 11 := Or.inl kw_11
theorem kw_12 : qz_cw 12 := ⟨_, rfl, rfl, by decide, List.forall_mem_cons.mpr ⟨wt_1181, List.forall_mem_cons.mpr ⟨wt_1183, List.forall_mem_cons.mpr ⟨wt_1185, List.forall_mem_cons.mpr ⟨wt_1187, List.forall_mem_cons.mpr ⟨wt_1189, List.forall_mem_cons.mpr ⟨wt_1191, List.forall_mem_cons.mpr ⟨wt_1193, List.forall_mem_cons.mpr ⟨wt_1195, List.forall_mem_cons.mpr ⟨wt_1197, List.forall_mem_cons.mpr ⟨wt_1199, List.forall_mem_cons.mpr ⟨wt_1201, List.forall_mem_cons.mpr ⟨wt_1203, List.forall_mem_cons.mpr ⟨wt_1205, List.forall_mem_cons.mpr ⟨wt_1207, List.forall_mem_cons.mpr ⟨wt_1209, List.forall_mem_cons.mpr ⟨wt_1211, List.forall_mem_cons.mpr ⟨wt_1213, List.forall_mem_cons.mpr ⟨wt_1215, List.forall_mem_cons.mpr ⟨wt_1217, List.forall_mem_cons.mpr ⟨wt_1219, List.forall_mem_cons.mpr ⟨wt_1221, List.forall_mem_cons.mpr ⟨wt_1223, List.forall_mem_cons.mpr ⟨wt_1225, List.forall_mem_cons.mpr ⟨wt_1227, List.forall_mem_cons.mpr ⟨wt_1229, List.forall_mem_cons.mpr ⟨wt_1231, List.forall_mem_cons.mpr ⟨wt_1233, List.forall_mem_cons.mpr ⟨wt_1235, List.forall_mem_cons.mpr ⟨wt_1237, List.forall_mem_cons.mpr ⟨wt_1239, List.forall_mem_cons.mpr ⟨wt_1241, List.forall_mem_cons.mpr ⟨wt_1243, List.forall_mem_cons.mpr ⟨wt_1245, List.forall_mem_cons.mpr ⟨wt_1247, List.forall_mem_cons.mpr ⟨wt_1249, List.forall_mem_cons.mpr ⟨wt_1251, List.forall_mem_cons.mpr ⟨wt_1253, List.forall_mem_cons.mpr ⟨wt_1255, List.forall_mem_cons.mpr ⟨wt_1257, List.forall_mem_cons.mpr ⟨wt_1259, List.forall_mem_cons.mpr ⟨wt_1261, List.forall_mem_cons.mpr ⟨wt_1263, List.forall_mem_cons.mpr ⟨wt_1265, List.forall_mem_cons.mpr ⟨wt_1267, List.forall_mem_cons.mpr ⟨wt_1269, List.forall_mem_cons.mpr ⟨wt_1271, List.forall_mem_cons.mpr ⟨wt_1273, List.forall_mem_cons.mpr ⟨wt_1275, List.forall_mem_cons.mpr ⟨wt_1277, List.forall_mem_cons.mpr ⟨wt_1279, List.forall_mem_cons.mpr ⟨wt_1281, List.forall_mem_cons.mpr ⟨wt_1283, List.forall_mem_cons.mpr ⟨wt_1285, List.forall_mem_cons.mpr ⟨wt_1287, List.forall_mem_cons.mpr ⟨wt_1289, List.forall_mem_cons.mpr ⟨wt_1291, List.forall_mem_cons.mpr ⟨wt_1293, List.forall_mem_cons.mpr ⟨wt_1295, List.forall_mem_cons.mpr ⟨wt_1297, List.forall_mem_cons.mpr ⟨wt_1299, List.forall_mem_cons.mpr ⟨wt_1301, List.forall_mem_cons.mpr ⟨wt_1303, List.forall_mem_cons.mpr ⟨wt_1305, List.forall_mem_cons.mpr ⟨wt_1307, (fun _ z => by cases z)⟩⟩⟩⟩⟩⟩⟩⟩⟩⟩⟩⟩⟩⟩⟩⟩⟩⟩⟩⟩⟩⟩⟩⟩⟩⟩⟩⟩⟩⟩⟩⟩⟩⟩⟩⟩⟩⟩⟩⟩⟩⟩⟩⟩⟩⟩⟩⟩⟩⟩⟩⟩⟩⟩⟩⟩⟩⟩⟩⟩⟩⟩⟩⟩, by decide +kernel, by decide +kernel, by decide +kernel⟩
theorem kg_12 : qz_cg 12 := Or.inl kw_12
theorem kg_13 : qz_cg 13 := Or.inr ⟨by decide, by decide, _, rfl, rfl⟩
def yd_Text_init : qz_Y := (⟨"StackAssembler$Text", "<init>", "()V"⟩, prog_13_method_1_code, 1, (Option.none : Option Jvm.ClassFile.FieldType), 0, { frames := 1, cells := 1, slots := 320, locals := 20 })
theorem pc_StackAssembler_Text : ("StackAssembler$Text" : String) ≠ "java/lang/invoke/MethodHandle" ∧ ("StackAssembler$Text" : String) ≠ "java/lang/invoke/VarHandle" ∧ plainName "StackAssembler$Text" = true := by decide +kernel
theorem pd___V : (parseMethodDescriptor "()V").map (fun d => d.parameters.length) = some 0 := by decide +kernel
theorem mw_Text_init : qz_mw yd_Text_init 0 := ⟨wt_40, wt_2, ⟨pc_StackAssembler_Text.1, pc_StackAssembler_Text.2.1, pd___V⟩, pc_StackAssembler_Text.2.2⟩
theorem vi_Text_init : Cond.instanceMethod yd_Text_init.1 ∈ kz_TT ∧ yd_Text_init.1.name = "<init>" ∧ yd_Text_init.2.2.2.1 = none := ⟨wt_39, rfl, rfl⟩
def yd_Function_init : qz_Y := (⟨"StackAssembler$Function", "<init>", "()V"⟩, prog_6_method_1_code, 1, (Option.none : Option Jvm.ClassFile.FieldType), 0, { frames := 1, cells := 1, slots := 8, locals := 20 })
theorem pc_StackAssembler_Function : ("StackAssembler$Function" : String) ≠ "java/lang/invoke/MethodHandle" ∧ ("StackAssembler$Function" : String) ≠ "java/lang/invoke/VarHandle" ∧ plainName "StackAssembler$Function" = true := by decide +kernel
theorem mw_Function_init : qz_mw yd_Function_init 0 := ⟨wt_66, wt_4, ⟨pc_StackAssembler_Function.1, pc_StackAssembler_Function.2.1, pd___V⟩, pc_StackAssembler_Function.2.2⟩
theorem vi_Function_init : Cond.instanceMethod yd_Function_init.1 ∈ kz_TT ∧ yd_Function_init.1.name = "<init>" ∧ yd_Function_init.2.2.2.1 = none := ⟨wt_65, rfl, rfl⟩
def yd_Module_init : qz_Y := (⟨"StackAssembler$Module", "<init>", "()V"⟩, prog_8_method_1_code, 2, (Option.none : Option Jvm.ClassFile.FieldType), 0, { frames := 2, cells := 11, slots := 188, locals := 40 })
theorem pc_StackAssembler_Module : ("StackAssembler$Module" : String) ≠ "java/lang/invoke/MethodHandle" ∧ ("StackAssembler$Module" : String) ≠ "java/lang/invoke/VarHandle" ∧ plainName "StackAssembler$Module" = true := by decide +kernel
theorem mw_Module_init : qz_mw yd_Module_init 0 := ⟨wt_57, wt_3, ⟨pc_StackAssembler_Module.1, pc_StackAssembler_Module.2.1, pd___V⟩, pc_StackAssembler_Module.2.2⟩
theorem vi_Module_init : Cond.instanceMethod yd_Module_init.1 ∈ kz_TT ∧ yd_Module_init.1.name = "<init>" ∧ yd_Module_init.2.2.2.1 = none := ⟨wt_56, rfl, rfl⟩
def yd_Scanner_init : qz_Y := (⟨"StackAssembler$Scanner", "<init>", "(LStackAssembler$Text;)V"⟩, prog_12_method_1_code, 2, (Option.none : Option Jvm.ClassFile.FieldType), 0, { frames := 1, cells := 0, slots := 0, locals := 20 })
theorem pc_StackAssembler_Scanner : ("StackAssembler$Scanner" : String) ≠ "java/lang/invoke/MethodHandle" ∧ ("StackAssembler$Scanner" : String) ≠ "java/lang/invoke/VarHandle" ∧ plainName "StackAssembler$Scanner" = true := by decide +kernel
theorem pd__LStackAssembler_Text__V : (parseMethodDescriptor "(LStackAssembler$Text;)V").map (fun d => d.parameters.length) = some 1 := by decide +kernel
theorem mw_Scanner_init : qz_mw yd_Scanner_init 1 := ⟨wt_165, wt_8, ⟨pc_StackAssembler_Scanner.1, pc_StackAssembler_Scanner.2.1, pd__LStackAssembler_Text__V⟩, pc_StackAssembler_Scanner.2.2⟩
theorem vi_Scanner_init : Cond.instanceMethod yd_Scanner_init.1 ∈ kz_TT ∧ yd_Scanner_init.1.name = "<init>" ∧ yd_Scanner_init.2.2.2.1 = none := ⟨wt_164, rfl, rfl⟩
def yd_Level_init : qz_Y := (⟨"StackAssembler$Level", "<init>", "()V"⟩, prog_7_method_1_code, 1, (Option.none : Option Jvm.ClassFile.FieldType), 0, { frames := 1, cells := 0, slots := 0, locals := 20 })
theorem pc_StackAssembler_Level : ("StackAssembler$Level" : String) ≠ "java/lang/invoke/MethodHandle" ∧ ("StackAssembler$Level" : String) ≠ "java/lang/invoke/VarHandle" ∧ plainName "StackAssembler$Level" = true := by decide +kernel
theorem mw_Level_init : qz_mw yd_Level_init 0 := ⟨wt_193, wt_9, ⟨pc_StackAssembler_Level.1, pc_StackAssembler_Level.2.1, pd___V⟩, pc_StackAssembler_Level.2.2⟩
theorem vi_Level_init : Cond.instanceMethod yd_Level_init.1 ∈ kz_TT ∧ yd_Level_init.1.name = "<init>" ∧ yd_Level_init.2.2.2.1 = none := ⟨wt_192, rfl, rfl⟩
def yd_Reader_init : qz_Y := (⟨"StackAssembler$Reader", "<init>", "(LStackAssembler$Text;LStackAssembler$Module;)V"⟩, prog_11_method_1_code, 4, (Option.none : Option Jvm.ClassFile.FieldType), 0, { frames := 2, cells := 17, slots := 96, locals := 41 })
theorem pc_StackAssembler_Reader : ("StackAssembler$Reader" : String) ≠ "java/lang/invoke/MethodHandle" ∧ ("StackAssembler$Reader" : String) ≠ "java/lang/invoke/VarHandle" ∧ plainName "StackAssembler$Reader" = true := by decide +kernel
theorem pd__LStackAssembler_Text_LStackAssembler_Module__V : (parseMethodDescriptor "(LStackAssembler$Text;LStackAssembler$Module;)V").map (fun d => d.parameters.length) = some 2 := by decide +kernel
theorem mw_Reader_init : qz_mw yd_Reader_init 2 := ⟨wt_157, wt_7, ⟨pc_StackAssembler_Reader.1, pc_StackAssembler_Reader.2.1, pd__LStackAssembler_Text_LStackAssembler_Module__V⟩, pc_StackAssembler_Reader.2.2⟩
theorem vi_Reader_init : Cond.instanceMethod yd_Reader_init.1 ∈ kz_TT ∧ yd_Reader_init.1.name = "<init>" ∧ yd_Reader_init.2.2.2.1 = none := ⟨wt_156, rfl, rfl⟩
def yd_Module_latest : qz_Y := (⟨"StackAssembler$Module", "latest", "()LStackAssembler$Function;"⟩, prog_8_method_5_code, 1, (Option.some (Jvm.ClassFile.FieldType.object "StackAssembler$Function")), 14, { frames := 1, cells := 0, slots := 0, locals := 21 })
theorem pd___LStackAssembler_Function_ : (parseMethodDescriptor "()LStackAssembler$Function;").map (fun d => d.parameters.length) = some 0 := by decide +kernel
theorem mw_Module_latest : qz_mw yd_Module_latest 0 := ⟨wt_260, wt_3, ⟨pc_StackAssembler_Module.1, pc_StackAssembler_Module.2.1, pd___LStackAssembler_Function_⟩, pc_StackAssembler_Module.2.2⟩
theorem vw_Module_latest : qz_vw yd_Module_latest := ⟨wt_258, wt_259⟩
def yd_Frame_init : qz_Y := (⟨"StackAssembler$Frame", "<init>", "()V"⟩, prog_5_method_1_code, 1, (Option.none : Option Jvm.ClassFile.FieldType), 0, { frames := 1, cells := 0, slots := 0, locals := 20 })
theorem pc_StackAssembler_Frame : ("StackAssembler$Frame" : String) ≠ "java/lang/invoke/MethodHandle" ∧ ("StackAssembler$Frame" : String) ≠ "java/lang/invoke/VarHandle" ∧ plainName "StackAssembler$Frame" = true := by decide +kernel
theorem mw_Frame_init : qz_mw yd_Frame_init 0 := ⟨wt_270, wt_12, ⟨pc_StackAssembler_Frame.1, pc_StackAssembler_Frame.2.1, pd___V⟩, pc_StackAssembler_Frame.2.2⟩
theorem vi_Frame_init : Cond.instanceMethod yd_Frame_init.1 ∈ kz_TT ∧ yd_Frame_init.1.name = "<init>" ∧ yd_Frame_init.2.2.2.1 = none := ⟨wt_269, rfl, rfl⟩
def yd_Checker_init : qz_Y := (⟨"StackAssembler$Checker", "<init>", "(LStackAssembler$Module;)V"⟩, prog_3_method_1_code, 3, (Option.none : Option Jvm.ClassFile.FieldType), 0, { frames := 2, cells := 14, slots := 136, locals := 41 })
theorem pc_StackAssembler_Checker : ("StackAssembler$Checker" : String) ≠ "java/lang/invoke/MethodHandle" ∧ ("StackAssembler$Checker" : String) ≠ "java/lang/invoke/VarHandle" ∧ plainName "StackAssembler$Checker" = true := by decide +kernel
theorem pd__LStackAssembler_Module__V : (parseMethodDescriptor "(LStackAssembler$Module;)V").map (fun d => d.parameters.length) = some 1 := by decide +kernel
theorem mw_Checker_init : qz_mw yd_Checker_init 1 := ⟨wt_253, wt_10, ⟨pc_StackAssembler_Checker.1, pc_StackAssembler_Checker.2.1, pd__LStackAssembler_Module__V⟩, pc_StackAssembler_Checker.2.2⟩
theorem vi_Checker_init : Cond.instanceMethod yd_Checker_init.1 ∈ kz_TT ∧ yd_Checker_init.1.name = "<init>" ∧ yd_Checker_init.2.2.2.1 = none := ⟨wt_252, rfl, rfl⟩
def yd_Encoder_init : qz_Y := (⟨"StackAssembler$Encoder", "<init>", "()V"⟩, prog_4_method_1_code, 1, (Option.none : Option Jvm.ClassFile.FieldType), 0, { frames := 1, cells := 2, slots := 1028, locals := 20 })
theorem pc_StackAssembler_Encoder : ("StackAssembler$Encoder" : String) ≠ "java/lang/invoke/MethodHandle" ∧ ("StackAssembler$Encoder" : String) ≠ "java/lang/invoke/VarHandle" ∧ plainName "StackAssembler$Encoder" = true := by decide +kernel
theorem mw_Encoder_init : qz_mw yd_Encoder_init 0 := ⟨wt_323, wt_13, ⟨pc_StackAssembler_Encoder.1, pc_StackAssembler_Encoder.2.1, pd___V⟩, pc_StackAssembler_Encoder.2.2⟩
theorem vi_Encoder_init : Cond.instanceMethod yd_Encoder_init.1 ∈ kz_TT ∧ yd_Encoder_init.1.name = "<init>" ∧ yd_Encoder_init.2.2.2.1 = none := ⟨wt_322, rfl, rfl⟩
def yd_Printer_init : qz_Y := (⟨"StackAssembler$Printer", "<init>", "(LStackAssembler$Text;)V"⟩, prog_10_method_1_code, 2, (Option.none : Option Jvm.ClassFile.FieldType), 0, { frames := 1, cells := 0, slots := 0, locals := 20 })
theorem pc_StackAssembler_Printer : ("StackAssembler$Printer" : String) ≠ "java/lang/invoke/MethodHandle" ∧ ("StackAssembler$Printer" : String) ≠ "java/lang/invoke/VarHandle" ∧ plainName "StackAssembler$Printer" = true := by decide +kernel
theorem mw_Printer_init : qz_mw yd_Printer_init 1 := ⟨wt_341, wt_14, ⟨pc_StackAssembler_Printer.1, pc_StackAssembler_Printer.2.1, pd__LStackAssembler_Text__V⟩, pc_StackAssembler_Printer.2.2⟩
theorem vi_Printer_init : Cond.instanceMethod yd_Printer_init.1 ∈ kz_TT ∧ yd_Printer_init.1.name = "<init>" ∧ yd_Printer_init.2.2.2.1 = none := ⟨wt_340, rfl, rfl⟩
def yd_SA_init : qz_Y := (⟨"StackAssembler", "<init>", "()V"⟩, prog_1_method_1_code, 1, (Option.none : Option Jvm.ClassFile.FieldType), 0, { frames := 3, cells := 65, slots := 2312, locals := 64 })
theorem pc_StackAssembler : ("StackAssembler" : String) ≠ "java/lang/invoke/MethodHandle" ∧ ("StackAssembler" : String) ≠ "java/lang/invoke/VarHandle" ∧ plainName "StackAssembler" = true := by decide +kernel
theorem mw_SA_init : qz_mw yd_SA_init 0 := ⟨wt_32, wt_1, ⟨pc_StackAssembler.1, pc_StackAssembler.2.1, pd___V⟩, pc_StackAssembler.2.2⟩
theorem vi_SA_init : Cond.instanceMethod yd_SA_init.1 ∈ kz_TT ∧ yd_SA_init.1.name = "<init>" ∧ yd_SA_init.2.2.2.1 = none := ⟨wt_31, rfl, rfl⟩
def yd_Text_add : qz_Y := (⟨"StackAssembler$Text", "add", "(C)V"⟩, prog_13_method_3_code, 2, (Option.none : Option Jvm.ClassFile.FieldType), 0, { frames := 0, cells := 0, slots := 0, locals := 0 })
theorem pd__C_V : (parseMethodDescriptor "(C)V").map (fun d => d.parameters.length) = some 1 := by decide +kernel
theorem mw_Text_add : qz_mw yd_Text_add 1 := ⟨wt_386, wt_2, ⟨pc_StackAssembler_Text.1, pc_StackAssembler_Text.2.1, pd__C_V⟩, pc_StackAssembler_Text.2.2⟩
theorem vw_Text_add : qz_vw yd_Text_add := ⟨wt_384, wt_385⟩
def yd_Text_addBytes : qz_Y := (⟨"StackAssembler$Text", "addBytes", "(J)Z"⟩, prog_13_method_6_code, 6, (Option.some Jvm.ClassFile.FieldType.boolean), 3, { frames := 1, cells := 0, slots := 0, locals := 21 })
theorem pd__J_Z : (parseMethodDescriptor "(J)Z").map (fun d => d.parameters.length) = some 1 := by decide +kernel
theorem mw_Text_addBytes : qz_mw yd_Text_addBytes 1 := ⟨wt_382, wt_2, ⟨pc_StackAssembler_Text.1, pc_StackAssembler_Text.2.1, pd__J_Z⟩, pc_StackAssembler_Text.2.2⟩
theorem vw_Text_addBytes : qz_vw yd_Text_addBytes := ⟨wt_380, wt_381⟩
def yd_SA_type : qz_Y := (⟨"StackAssembler", "type", "(J)Z"⟩, prog_1_method_2_code, 3, (Option.some Jvm.ClassFile.FieldType.boolean), 3, { frames := 2, cells := 0, slots := 0, locals := 46 })
theorem mw_SA_type : qz_mw yd_SA_type 1 := ⟨wt_378, wt_1, ⟨pc_StackAssembler.1, pc_StackAssembler.2.1, pd__J_Z⟩, pc_StackAssembler.2.2⟩
theorem vw_SA_type : qz_vw yd_SA_type := ⟨wt_376, wt_377⟩
def yd_SA_wipe : qz_Y := (⟨"StackAssembler", "wipe", "()V"⟩, prog_1_method_3_code, 1, (Option.none : Option Jvm.ClassFile.FieldType), 0, { frames := 0, cells := 0, slots := 0, locals := 0 })
theorem mw_SA_wipe : qz_mw yd_SA_wipe 0 := ⟨wt_390, wt_1, ⟨pc_StackAssembler.1, pc_StackAssembler.2.1, pd___V⟩, pc_StackAssembler.2.2⟩
theorem vw_SA_wipe : qz_vw yd_SA_wipe := ⟨wt_388, wt_389⟩
def yd_Text_at : qz_Y := (⟨"StackAssembler$Text", "at", "(I)C"⟩, prog_13_method_2_code, 2, (Option.some Jvm.ClassFile.FieldType.char), 4, { frames := 0, cells := 0, slots := 0, locals := 0 })
theorem pd__I_C : (parseMethodDescriptor "(I)C").map (fun d => d.parameters.length) = some 1 := by decide +kernel
theorem mw_Text_at : qz_mw yd_Text_at 1 := ⟨wt_398, wt_2, ⟨pc_StackAssembler_Text.1, pc_StackAssembler_Text.2.1, pd__I_C⟩, pc_StackAssembler_Text.2.2⟩
theorem vw_Text_at : qz_vw yd_Text_at := ⟨wt_396, wt_397⟩
def yd_SA_character : qz_Y := (⟨"StackAssembler", "character", "(I)C"⟩, prog_1_method_4_code, 2, (Option.some Jvm.ClassFile.FieldType.char), 4, { frames := 1, cells := 0, slots := 0, locals := 21 })
theorem mw_SA_character : qz_mw yd_SA_character 1 := ⟨wt_394, wt_1, ⟨pc_StackAssembler.1, pc_StackAssembler.2.1, pd__I_C⟩, pc_StackAssembler.2.2⟩
theorem vw_SA_character : qz_vw yd_SA_character := ⟨wt_392, wt_393⟩
def yd_Scanner_begin : qz_Y := (⟨"StackAssembler$Scanner", "begin", "(LStackAssembler$Text;)V"⟩, prog_12_method_2_code, 2, (Option.none : Option Jvm.ClassFile.FieldType), 0, { frames := 0, cells := 0, slots := 0, locals := 0 })
theorem mw_Scanner_begin : qz_mw yd_Scanner_begin 1 := ⟨wt_533, wt_8, ⟨pc_StackAssembler_Scanner.1, pc_StackAssembler_Scanner.2.1, pd__LStackAssembler_Text__V⟩, pc_StackAssembler_Scanner.2.2⟩
theorem vw_Scanner_begin : qz_vw yd_Scanner_begin := ⟨wt_531, wt_532⟩
def yd_Module_clear : qz_Y := (⟨"StackAssembler$Module", "clear", "()V"⟩, prog_8_method_2_code, 1, (Option.none : Option Jvm.ClassFile.FieldType), 0, { frames := 0, cells := 0, slots := 0, locals := 0 })
theorem mw_Module_clear : qz_mw yd_Module_clear 0 := ⟨wt_537, wt_3, ⟨pc_StackAssembler_Module.1, pc_StackAssembler_Module.2.1, pd___V⟩, pc_StackAssembler_Module.2.2⟩
theorem vw_Module_clear : qz_vw yd_Module_clear := ⟨wt_535, wt_536⟩
def yd_Level_begin : qz_Y := (⟨"StackAssembler$Level", "begin", "(I)V"⟩, prog_7_method_2_code, 2, (Option.none : Option Jvm.ClassFile.FieldType), 0, { frames := 0, cells := 0, slots := 0, locals := 0 })
theorem pd__I_V : (parseMethodDescriptor "(I)V").map (fun d => d.parameters.length) = some 1 := by decide +kernel
theorem mw_Level_begin : qz_mw yd_Level_begin 1 := ⟨wt_541, wt_9, ⟨pc_StackAssembler_Level.1, pc_StackAssembler_Level.2.1, pd__I_V⟩, pc_StackAssembler_Level.2.2⟩
theorem vw_Level_begin : qz_vw yd_Level_begin := ⟨wt_539, wt_540⟩
def yd_Scanner_behindLine : qz_Y := (⟨"StackAssembler$Scanner", "behindLine", "(I)I"⟩, prog_12_method_6_code, 3, (Option.some Jvm.ClassFile.FieldType.int), 1, { frames := 1, cells := 0, slots := 0, locals := 21 })
theorem pd__I_I : (parseMethodDescriptor "(I)I").map (fun d => d.parameters.length) = some 1 := by decide +kernel
theorem mw_Scanner_behindLine : qz_mw yd_Scanner_behindLine 1 := ⟨wt_558, wt_8, ⟨pc_StackAssembler_Scanner.1, pc_StackAssembler_Scanner.2.1, pd__I_I⟩, pc_StackAssembler_Scanner.2.2⟩
theorem vw_Scanner_behindLine : qz_vw yd_Scanner_behindLine := ⟨wt_557, wp_15⟩
def yd_Scanner_behindComment : qz_Y := (⟨"StackAssembler$Scanner", "behindComment", "(I)I"⟩, prog_12_method_7_code, 6, (Option.some Jvm.ClassFile.FieldType.int), 1, { frames := 1, cells := 0, slots := 0, locals := 21 })
theorem mw_Scanner_behindComment : qz_mw yd_Scanner_behindComment 1 := ⟨wt_562, wt_8, ⟨pc_StackAssembler_Scanner.1, pc_StackAssembler_Scanner.2.1, pd__I_I⟩, pc_StackAssembler_Scanner.2.2⟩
theorem vw_Scanner_behindComment : qz_vw yd_Scanner_behindComment := ⟨wt_561, wp_16⟩
def yd_Scanner_behindGap : qz_Y := (⟨"StackAssembler$Scanner", "behindGap", "(I)I"⟩, prog_12_method_5_code, 4, (Option.some Jvm.ClassFile.FieldType.int), 1, { frames := 2, cells := 0, slots := 0, locals := 46 })
theorem mw_Scanner_behindGap : qz_mw yd_Scanner_behindGap 1 := ⟨wt_553, wt_8, ⟨pc_StackAssembler_Scanner.1, pc_StackAssembler_Scanner.2.1, pd__I_I⟩, pc_StackAssembler_Scanner.2.2⟩
theorem vw_Scanner_behindGap : qz_vw yd_Scanner_behindGap := ⟨wt_552, wp_14⟩
def yd_Scanner_behindGaps : qz_Y := (⟨"StackAssembler$Scanner", "behindGaps", "(I)I"⟩, prog_12_method_4_code, 5, (Option.some Jvm.ClassFile.FieldType.int), 1, { frames := 3, cells := 0, slots := 0, locals := 69 })
theorem mw_Scanner_behindGaps : qz_mw yd_Scanner_behindGaps 1 := ⟨wt_549, wt_8, ⟨pc_StackAssembler_Scanner.1, pc_StackAssembler_Scanner.2.1, pd__I_I⟩, pc_StackAssembler_Scanner.2.2⟩
theorem vw_Scanner_behindGaps : qz_vw yd_Scanner_behindGaps := ⟨wt_548, wp_13⟩
def yd_Scanner_isOfWord : qz_Y := (⟨"StackAssembler$Scanner", "isOfWord", "(C)Z"⟩, prog_12_method_9_code, 2, (Option.some Jvm.ClassFile.FieldType.boolean), 3, { frames := 0, cells := 0, slots := 0, locals := 0 })
theorem pd__C_Z : (parseMethodDescriptor "(C)Z").map (fun d => d.parameters.length) = some 1 := by decide +kernel
theorem mw_Scanner_isOfWord : qz_mw yd_Scanner_isOfWord 1 := ⟨wt_565, wt_8, ⟨pc_StackAssembler_Scanner.1, pc_StackAssembler_Scanner.2.1, pd__C_Z⟩, pc_StackAssembler_Scanner.2.2⟩
theorem vs_Scanner_isOfWord : Cond.static yd_Scanner_isOfWord.1 ∈ kz_TT := wt_564
def yd_Scanner_behindWord : qz_Y := (⟨"StackAssembler$Scanner", "behindWord", "(I)I"⟩, prog_12_method_8_code, 3, (Option.some Jvm.ClassFile.FieldType.int), 1, { frames := 1, cells := 0, slots := 0, locals := 21 })
theorem mw_Scanner_behindWord : qz_mw yd_Scanner_behindWord 1 := ⟨wt_569, wt_8, ⟨pc_StackAssembler_Scanner.1, pc_StackAssembler_Scanner.2.1, pd__I_I⟩, pc_StackAssembler_Scanner.2.2⟩
theorem vw_Scanner_behindWord : qz_vw yd_Scanner_behindWord := ⟨wt_568, wp_17⟩
def yd_String_coder : qz_Y := (⟨"java/lang/String", "coder", "()B"⟩, prog_23_method_152_code, 1, (Option.some Jvm.ClassFile.FieldType.byte), 5, { frames := 0, cells := 0, slots := 0, locals := 0 })
theorem pc_java_lang_String : ("java/lang/String" : String) ≠ "java/lang/invoke/MethodHandle" ∧ ("java/lang/String" : String) ≠ "java/lang/invoke/VarHandle" ∧ plainName "java/lang/String" = true := by decide +kernel
theorem pd___B : (parseMethodDescriptor "()B").map (fun d => d.parameters.length) = some 0 := by decide +kernel
theorem mw_String_coder : qz_mw yd_String_coder 0 := ⟨wt_587, wt_16, ⟨pc_java_lang_String.1, pc_java_lang_String.2.1, pd___B⟩, pc_java_lang_String.2.2⟩
theorem vw_String_coder : qz_vw yd_String_coder := ⟨wt_585, wt_586⟩
def yd_String_length : qz_Y := (⟨"java/lang/String", "length", "()I"⟩, prog_23_method_54_code, 1, (Option.some Jvm.ClassFile.FieldType.int), 1, { frames := 1, cells := 0, slots := 0, locals := 20 })
theorem pd___I : (parseMethodDescriptor "()I").map (fun d => d.parameters.length) = some 0 := by decide +kernel
theorem mw_String_length : qz_mw yd_String_length 0 := ⟨wt_583, wt_16, ⟨pc_java_lang_String.1, pc_java_lang_String.2.1, pd___I⟩, pc_java_lang_String.2.2⟩
theorem vw_String_length : qz_vw yd_String_length := ⟨wt_581, wt_582⟩
def yd_String_isLatin1 : qz_Y := (⟨"java/lang/String", "isLatin1", "()Z"⟩, prog_23_method_154_code, 1, (Option.some Jvm.ClassFile.FieldType.boolean), 3, { frames := 0, cells := 0, slots := 0, locals := 0 })
theorem pd___Z : (parseMethodDescriptor "()Z").map (fun d => d.parameters.length) = some 0 := by decide +kernel
theorem mw_String_isLatin1 : qz_mw yd_String_isLatin1 0 := ⟨wt_597, wt_16, ⟨pc_java_lang_String.1, pc_java_lang_String.2.1, pd___Z⟩, pc_java_lang_String.2.2⟩
theorem vw_String_isLatin1 : qz_vw yd_String_isLatin1 := ⟨wt_595, wt_596⟩
def yd_Preconditions_checkIndex : qz_Y := (⟨"jdk/internal/util/Preconditions", "checkIndex", "(IILjava/util/function/BiFunction;)I"⟩, prog_28_method_11_code, 3, (Option.some Jvm.ClassFile.FieldType.int), 1, { frames := 0, cells := 0, slots := 0, locals := 0 })
theorem pc_jdk_internal_util_Preconditions : ("jdk/internal/util/Preconditions" : String) ≠ "java/lang/invoke/MethodHandle" ∧ ("jdk/internal/util/Preconditions" : String) ≠ "java/lang/invoke/VarHandle" ∧ plainName "jdk/internal/util/Preconditions" = true := by decide +kernel
theorem pd__IILjava_util_function_BiFunction__I : (parseMethodDescriptor "(IILjava/util/function/BiFunction;)I").map (fun d => d.parameters.length) = some 3 := by decide +kernel
theorem mw_Preconditions_checkIndex : qz_mw yd_Preconditions_checkIndex 3 := ⟨wt_608, wt_18, ⟨pc_jdk_internal_util_Preconditions.1, pc_jdk_internal_util_Preconditions.2.1, pd__IILjava_util_function_BiFunction__I⟩, pc_jdk_internal_util_Preconditions.2.2⟩
theorem vs_Preconditions_checkIndex : Cond.static yd_Preconditions_checkIndex.1 ∈ kz_TT := wt_607
def yd_String_checkIndex : qz_Y := (⟨"java/lang/String", "checkIndex", "(II)V"⟩, prog_23_method_155_code, 2, (Option.none : Option Jvm.ClassFile.FieldType), 0, { frames := 1, cells := 0, slots := 0, locals := 22 })
theorem pd__II_V : (parseMethodDescriptor "(II)V").map (fun d => d.parameters.length) = some 2 := by decide +kernel
theorem mw_String_checkIndex : qz_mw yd_String_checkIndex 2 := ⟨wt_603, wt_16, ⟨pc_java_lang_String.1, pc_java_lang_String.2.1, pd__II_V⟩, pc_java_lang_String.2.2⟩
theorem vs_String_checkIndex : Cond.static yd_String_checkIndex.1 ∈ kz_TT := wt_602
def yd_StringLatin1_charAt : qz_Y := (⟨"java/lang/StringLatin1", "charAt", "([BI)C"⟩, prog_24_method_2_code, 2, (Option.some Jvm.ClassFile.FieldType.char), 4, { frames := 2, cells := 0, slots := 0, locals := 43 })
theorem pc_java_lang_StringLatin1 : ("java/lang/StringLatin1" : String) ≠ "java/lang/invoke/MethodHandle" ∧ ("java/lang/StringLatin1" : String) ≠ "java/lang/invoke/VarHandle" ∧ plainName "java/lang/StringLatin1" = true := by decide +kernel
theorem pd__ABI_C : (parseMethodDescriptor "([BI)C").map (fun d => d.parameters.length) = some 2 := by decide +kernel
theorem mw_StringLatin1_charAt : qz_mw yd_StringLatin1_charAt 2 := ⟨wt_600, wt_17, ⟨pc_java_lang_StringLatin1.1, pc_java_lang_StringLatin1.2.1, pd__ABI_C⟩, pc_java_lang_StringLatin1.2.2⟩
theorem vs_StringLatin1_charAt : Cond.static yd_StringLatin1_charAt.1 ∈ kz_TT := wt_599
def yd_String_charAt : qz_Y := (⟨"java/lang/String", "charAt", "(I)C"⟩, prog_23_method_56_code, 2, (Option.some Jvm.ClassFile.FieldType.char), 4, { frames := 3, cells := 0, slots := 0, locals := 64 })
theorem mw_String_charAt : qz_mw yd_String_charAt 1 := ⟨wt_593, wt_16, ⟨pc_java_lang_String.1, pc_java_lang_String.2.1, pd__I_C⟩, pc_java_lang_String.2.2⟩
theorem vw_String_charAt : qz_vw yd_String_charAt := ⟨wt_591, wt_592⟩
def yd_Scanner_is : qz_Y := (⟨"StackAssembler$Scanner", "is", "(Ljava/lang/String;)Z"⟩, prog_12_method_11_code, 3, (Option.some Jvm.ClassFile.FieldType.boolean), 3, { frames := 4, cells := 0, slots := 0, locals := 85 })
theorem pd__Ljava_lang_String__Z : (parseMethodDescriptor "(Ljava/lang/String;)Z").map (fun d => d.parameters.length) = some 1 := by decide +kernel
theorem mw_Scanner_is : qz_mw yd_Scanner_is 1 := ⟨wt_579, wt_8, ⟨pc_StackAssembler_Scanner.1, pc_StackAssembler_Scanner.2.1, pd__Ljava_lang_String__Z⟩, pc_StackAssembler_Scanner.2.2⟩
theorem vw_Scanner_is : qz_vw yd_Scanner_is := ⟨wt_577, wt_578⟩
def yd_Scanner_findOp : qz_Y := (⟨"StackAssembler$Scanner", "findOp", "()LStackAssembler$Op;"⟩, prog_12_method_14_code, 2, (Option.some (Jvm.ClassFile.FieldType.object "StackAssembler$Op")), 17, { frames := 5, cells := 0, slots := 0, locals := 107 })
theorem pd___LStackAssembler_Op_ : (parseMethodDescriptor "()LStackAssembler$Op;").map (fun d => d.parameters.length) = some 0 := by decide +kernel
theorem mw_Scanner_findOp : qz_mw yd_Scanner_findOp 0 := ⟨wt_573, wt_8, ⟨pc_StackAssembler_Scanner.1, pc_StackAssembler_Scanner.2.1, pd___LStackAssembler_Op_⟩, pc_StackAssembler_Scanner.2.2⟩
theorem vw_Scanner_findOp : qz_vw yd_Scanner_findOp := ⟨wt_572, wp_18⟩
def yd_Scanner_next : qz_Y := (⟨"StackAssembler$Scanner", "next", "()V"⟩, prog_12_method_3_code, 2, (Option.none : Option Jvm.ClassFile.FieldType), 0, { frames := 6, cells := 0, slots := 0, locals := 128 })
theorem mw_Scanner_next : qz_mw yd_Scanner_next 0 := ⟨wt_545, wt_8, ⟨pc_StackAssembler_Scanner.1, pc_StackAssembler_Scanner.2.1, pd___V⟩, pc_StackAssembler_Scanner.2.2⟩
theorem vw_Scanner_next : qz_vw yd_Scanner_next := ⟨wt_543, wt_544⟩
def yd_Scanner_beginsWith : qz_Y := (⟨"StackAssembler$Scanner", "beginsWith", "(C)Z"⟩, prog_12_method_15_code, 2, (Option.some Jvm.ClassFile.FieldType.boolean), 3, { frames := 1, cells := 0, slots := 0, locals := 21 })
theorem mw_Scanner_beginsWith : qz_mw yd_Scanner_beginsWith 1 := ⟨wt_649, wt_8, ⟨pc_StackAssembler_Scanner.1, pc_StackAssembler_Scanner.2.1, pd__C_Z⟩, pc_StackAssembler_Scanner.2.2⟩
theorem vw_Scanner_beginsWith : qz_vw yd_Scanner_beginsWith := ⟨wt_647, wt_648⟩
def yd_Long_compare : qz_Y := (⟨"java/lang/Long", "compare", "(JJ)I"⟩, prog_20_method_42_code, 4, (Option.some Jvm.ClassFile.FieldType.int), 1, { frames := 0, cells := 0, slots := 0, locals := 0 })
theorem pc_java_lang_Long : ("java/lang/Long" : String) ≠ "java/lang/invoke/MethodHandle" ∧ ("java/lang/Long" : String) ≠ "java/lang/invoke/VarHandle" ∧ plainName "java/lang/Long" = true := by decide +kernel
theorem pd__JJ_I : (parseMethodDescriptor "(JJ)I").map (fun d => d.parameters.length) = some 2 := by decide +kernel
theorem mw_Long_compare : qz_mw yd_Long_compare 2 := ⟨wt_661, wt_20, ⟨pc_java_lang_Long.1, pc_java_lang_Long.2.1, pd__JJ_I⟩, pc_java_lang_Long.2.2⟩
theorem vs_Long_compare : Cond.static yd_Long_compare.1 ∈ kz_TT := wt_660
def yd_Long_compareUnsigned : qz_Y := (⟨"java/lang/Long", "compareUnsigned", "(JJ)I"⟩, prog_20_method_43_code, 4, (Option.some Jvm.ClassFile.FieldType.int), 1, { frames := 1, cells := 0, slots := 0, locals := 23 })
theorem mw_Long_compareUnsigned : qz_mw yd_Long_compareUnsigned 2 := ⟨wt_657, wt_20, ⟨pc_java_lang_Long.1, pc_java_lang_Long.2.1, pd__JJ_I⟩, pc_java_lang_Long.2.2⟩
theorem vs_Long_compareUnsigned : Cond.static yd_Long_compareUnsigned.1 ∈ kz_TT := wt_656
def yd_Scanner_readDigits : qz_Y := (⟨"StackAssembler$Scanner", "readDigits", "(I)Z"⟩, prog_12_method_16_code, 4, (Option.some Jvm.ClassFile.FieldType.boolean), 3, { frames := 2, cells := 0, slots := 0, locals := 46 })
theorem pd__I_Z : (parseMethodDescriptor "(I)Z").map (fun d => d.parameters.length) = some 1 := by decide +kernel
theorem mw_Scanner_readDigits : qz_mw yd_Scanner_readDigits 1 := ⟨wt_653, wt_8, ⟨pc_StackAssembler_Scanner.1, pc_StackAssembler_Scanner.2.1, pd__I_Z⟩, pc_StackAssembler_Scanner.2.2⟩
theorem vw_Scanner_readDigits : qz_vw yd_Scanner_readDigits := ⟨wt_651, wt_652⟩
def yd_Reader_readNumber : qz_Y := (⟨"StackAssembler$Reader", "readNumber", "(JJ)Z"⟩, prog_11_method_25_code, 10, (Option.some Jvm.ClassFile.FieldType.boolean), 3, { frames := 3, cells := 0, slots := 0, locals := 69 })
theorem pd__JJ_Z : (parseMethodDescriptor "(JJ)Z").map (fun d => d.parameters.length) = some 2 := by decide +kernel
theorem mw_Reader_readNumber : qz_mw yd_Reader_readNumber 2 := ⟨wt_645, wt_7, ⟨pc_StackAssembler_Reader.1, pc_StackAssembler_Reader.2.1, pd__JJ_Z⟩, pc_StackAssembler_Reader.2.2⟩
theorem vw_Reader_readNumber : qz_vw yd_Reader_readNumber := ⟨wt_644, wp_22⟩
def yd_Scanner_isName : qz_Y := (⟨"StackAssembler$Scanner", "isName", "()Z"⟩, prog_12_method_12_code, 1, (Option.some Jvm.ClassFile.FieldType.boolean), 3, { frames := 1, cells := 0, slots := 0, locals := 21 })
theorem mw_Scanner_isName : qz_mw yd_Scanner_isName 0 := ⟨wt_669, wt_8, ⟨pc_StackAssembler_Scanner.1, pc_StackAssembler_Scanner.2.1, pd___Z⟩, pc_StackAssembler_Scanner.2.2⟩
theorem vw_Scanner_isName : qz_vw yd_Scanner_isName := ⟨wt_667, wt_668⟩
def yd_Level_isBlock : qz_Y := (⟨"StackAssembler$Level", "isBlock", "()Z"⟩, prog_7_method_3_code, 1, (Option.some Jvm.ClassFile.FieldType.boolean), 3, { frames := 0, cells := 0, slots := 0, locals := 0 })
theorem mw_Level_isBlock : qz_mw yd_Level_isBlock 0 := ⟨wt_678, wt_9, ⟨pc_StackAssembler_Level.1, pc_StackAssembler_Level.2.1, pd___Z⟩, pc_StackAssembler_Level.2.2⟩
theorem vw_Level_isBlock : qz_vw yd_Level_isBlock := ⟨wt_676, wt_677⟩
def yd_Scanner_same : qz_Y := (⟨"StackAssembler$Scanner", "same", "(II)Z"⟩, prog_12_method_10_code, 6, (Option.some Jvm.ClassFile.FieldType.boolean), 3, { frames := 1, cells := 0, slots := 0, locals := 21 })
theorem pd__II_Z : (parseMethodDescriptor "(II)Z").map (fun d => d.parameters.length) = some 2 := by decide +kernel
theorem mw_Scanner_same : qz_mw yd_Scanner_same 2 := ⟨wt_682, wt_8, ⟨pc_StackAssembler_Scanner.1, pc_StackAssembler_Scanner.2.1, pd__II_Z⟩, pc_StackAssembler_Scanner.2.2⟩
theorem vw_Scanner_same : qz_vw yd_Scanner_same := ⟨wt_680, wt_681⟩
def yd_Reader_labelNamed : qz_Y := (⟨"StackAssembler$Reader", "labelNamed", "()I"⟩, prog_11_method_26_code, 4, (Option.some Jvm.ClassFile.FieldType.int), 1, { frames := 2, cells := 0, slots := 0, locals := 46 })
theorem mw_Reader_labelNamed : qz_mw yd_Reader_labelNamed 0 := ⟨wt_674, wt_7, ⟨pc_StackAssembler_Reader.1, pc_StackAssembler_Reader.2.1, pd___I⟩, pc_StackAssembler_Reader.2.2⟩
theorem vw_Reader_labelNamed : qz_vw yd_Reader_labelNamed := ⟨wt_673, wp_23⟩
def yd_Reader_slotNamed : qz_Y := (⟨"StackAssembler$Reader", "slotNamed", "()I"⟩, prog_11_method_27_code, 3, (Option.some Jvm.ClassFile.FieldType.int), 1, { frames := 2, cells := 0, slots := 0, locals := 46 })
theorem mw_Reader_slotNamed : qz_mw yd_Reader_slotNamed 0 := ⟨wt_686, wt_7, ⟨pc_StackAssembler_Reader.1, pc_StackAssembler_Reader.2.1, pd___I⟩, pc_StackAssembler_Reader.2.2⟩
theorem vw_Reader_slotNamed : qz_vw yd_Reader_slotNamed := ⟨wt_685, wp_24⟩
def yd_Reader_readOperand : qz_Y := (⟨"StackAssembler$Reader", "readOperand", "(I)Z"⟩, prog_11_method_24_code, 3, (Option.some Jvm.ClassFile.FieldType.boolean), 3, { frames := 4, cells := 0, slots := 0, locals := 98 })
theorem mw_Reader_readOperand : qz_mw yd_Reader_readOperand 1 := ⟨wt_639, wt_7, ⟨pc_StackAssembler_Reader.1, pc_StackAssembler_Reader.2.1, pd__I_Z⟩, pc_StackAssembler_Reader.2.2⟩
theorem vw_Reader_readOperand : qz_vw yd_Reader_readOperand := ⟨wt_638, wp_21⟩
def yd_Reader_setLatestOperand : qz_Y := (⟨"StackAssembler$Reader", "setLatestOperand", "(J)V"⟩, prog_11_method_18_code, 3, (Option.none : Option Jvm.ClassFile.FieldType), 0, { frames := 0, cells := 0, slots := 0, locals := 0 })
theorem pd__J_V : (parseMethodDescriptor "(J)V").map (fun d => d.parameters.length) = some 1 := by decide +kernel
theorem mw_Reader_setLatestOperand : qz_mw yd_Reader_setLatestOperand 1 := ⟨wt_691, wt_7, ⟨pc_StackAssembler_Reader.1, pc_StackAssembler_Reader.2.1, pd__J_V⟩, pc_StackAssembler_Reader.2.2⟩
theorem vw_Reader_setLatestOperand : qz_vw yd_Reader_setLatestOperand := ⟨wt_690, wp_25⟩
def yd_Reader_inOperand : qz_Y := (⟨"StackAssembler$Reader", "inOperand", "(LStackAssembler$Level;)I"⟩, prog_11_method_23_code, 4, (Option.some Jvm.ClassFile.FieldType.int), 1, { frames := 5, cells := 0, slots := 0, locals := 120 })
theorem pd__LStackAssembler_Level__I : (parseMethodDescriptor "(LStackAssembler$Level;)I").map (fun d => d.parameters.length) = some 1 := by decide +kernel
theorem mw_Reader_inOperand : qz_mw yd_Reader_inOperand 1 := ⟨wt_635, wt_7, ⟨pc_StackAssembler_Reader.1, pc_StackAssembler_Reader.2.1, pd__LStackAssembler_Level__I⟩, pc_StackAssembler_Reader.2.2⟩
theorem vw_Reader_inOperand : qz_vw yd_Reader_inOperand := ⟨wt_634, wp_20⟩
def yd_Reader_push : qz_Y := (⟨"StackAssembler$Reader", "push", "(I)Z"⟩, prog_11_method_4_code, 2, (Option.some Jvm.ClassFile.FieldType.boolean), 3, { frames := 1, cells := 0, slots := 0, locals := 21 })
theorem mw_Reader_push : qz_mw yd_Reader_push 1 := ⟨wt_703, wt_7, ⟨pc_StackAssembler_Reader.1, pc_StackAssembler_Reader.2.1, pd__I_Z⟩, pc_StackAssembler_Reader.2.2⟩
theorem vw_Reader_push : qz_vw yd_Reader_push := ⟨wt_702, wp_28⟩
def yd_Reader_open : qz_Y := (⟨"StackAssembler$Reader", "open", "()I"⟩, prog_11_method_5_code, 1, (Option.some Jvm.ClassFile.FieldType.int), 1, { frames := 2, cells := 0, slots := 0, locals := 42 })
theorem mw_Reader_open : qz_mw yd_Reader_open 0 := ⟨wt_699, wt_7, ⟨pc_StackAssembler_Reader.1, pc_StackAssembler_Reader.2.1, pd___I⟩, pc_StackAssembler_Reader.2.2⟩
theorem vw_Reader_open : qz_vw yd_Reader_open := ⟨wt_698, wp_27⟩
def yd_Reader_inText : qz_Y := (⟨"StackAssembler$Reader", "inText", "(LStackAssembler$Level;)I"⟩, prog_11_method_7_code, 2, (Option.some Jvm.ClassFile.FieldType.int), 1, { frames := 3, cells := 0, slots := 0, locals := 62 })
theorem mw_Reader_inText : qz_mw yd_Reader_inText 1 := ⟨wt_695, wt_7, ⟨pc_StackAssembler_Reader.1, pc_StackAssembler_Reader.2.1, pd__LStackAssembler_Level__I⟩, pc_StackAssembler_Reader.2.2⟩
theorem vw_Reader_inText : qz_vw yd_Reader_inText := ⟨wt_694, wp_26⟩
def yd_Function_begin : qz_Y := (⟨"StackAssembler$Function", "begin", "(I)V"⟩, prog_6_method_2_code, 2, (Option.none : Option Jvm.ClassFile.FieldType), 0, { frames := 0, cells := 0, slots := 0, locals := 0 })
theorem mw_Function_begin : qz_mw yd_Function_begin 1 := ⟨wt_724, wt_4, ⟨pc_StackAssembler_Function.1, pc_StackAssembler_Function.2.1, pd__I_V⟩, pc_StackAssembler_Function.2.2⟩
theorem vw_Function_begin : qz_vw yd_Function_begin := ⟨wt_722, wt_723⟩
def yd_Module_addFunction : qz_Y := (⟨"StackAssembler$Module", "addFunction", "()Z"⟩, prog_8_method_6_code, 1, (Option.some Jvm.ClassFile.FieldType.boolean), 3, { frames := 2, cells := 0, slots := 0, locals := 41 })
theorem mw_Module_addFunction : qz_mw yd_Module_addFunction 0 := ⟨wt_719, wt_3, ⟨pc_StackAssembler_Module.1, pc_StackAssembler_Module.2.1, pd___Z⟩, pc_StackAssembler_Module.2.2⟩
theorem vw_Module_addFunction : qz_vw yd_Module_addFunction := ⟨wt_717, wt_718⟩
def yd_Reader_setFunctionName : qz_Y := (⟨"StackAssembler$Reader", "setFunctionName", "(I)V"⟩, prog_11_method_21_code, 3, (Option.none : Option Jvm.ClassFile.FieldType), 0, { frames := 0, cells := 0, slots := 0, locals := 0 })
theorem mw_Reader_setFunctionName : qz_mw yd_Reader_setFunctionName 1 := ⟨wt_728, wt_7, ⟨pc_StackAssembler_Reader.1, pc_StackAssembler_Reader.2.1, pd__I_V⟩, pc_StackAssembler_Reader.2.2⟩
theorem vw_Reader_setFunctionName : qz_vw yd_Reader_setFunctionName := ⟨wt_727, wp_31⟩
def yd_Reader_beginFunction : qz_Y := (⟨"StackAssembler$Reader", "beginFunction", "(LStackAssembler$Level;)I"⟩, prog_11_method_10_code, 2, (Option.some Jvm.ClassFile.FieldType.int), 1, { frames := 5, cells := 0, slots := 0, locals := 107 })
theorem mw_Reader_beginFunction : qz_mw yd_Reader_beginFunction 1 := ⟨wt_714, wt_7, ⟨pc_StackAssembler_Reader.1, pc_StackAssembler_Reader.2.1, pd__LStackAssembler_Level__I⟩, pc_StackAssembler_Reader.2.2⟩
theorem vw_Reader_beginFunction : qz_vw yd_Reader_beginFunction := ⟨wt_713, wp_30⟩
def yd_Op_opensBlock : qz_Y := (⟨"StackAssembler$Op", "opensBlock", "()Z"⟩, prog_9_method_5_code, 1, (Option.some Jvm.ClassFile.FieldType.boolean), 3, { frames := 0, cells := 0, slots := 0, locals := 0 })
theorem pc_StackAssembler_Op : ("StackAssembler$Op" : String) ≠ "java/lang/invoke/MethodHandle" ∧ ("StackAssembler$Op" : String) ≠ "java/lang/invoke/VarHandle" ∧ plainName "StackAssembler$Op" = true := by decide +kernel
theorem mw_Op_opensBlock : qz_mw yd_Op_opensBlock 0 := ⟨wt_740, wt_6, ⟨pc_StackAssembler_Op.1, pc_StackAssembler_Op.2.1, pd___Z⟩, pc_StackAssembler_Op.2.2⟩
theorem vw_Op_opensBlock : qz_vw yd_Op_opensBlock := ⟨wt_738, wt_739⟩
def yd_Op_isPlain : qz_Y := (⟨"StackAssembler$Op", "isPlain", "()Z"⟩, prog_9_method_6_code, 1, (Option.some Jvm.ClassFile.FieldType.boolean), 3, { frames := 1, cells := 0, slots := 0, locals := 20 })
theorem mw_Op_isPlain : qz_mw yd_Op_isPlain 0 := ⟨wt_736, wt_6, ⟨pc_StackAssembler_Op.1, pc_StackAssembler_Op.2.1, pd___Z⟩, pc_StackAssembler_Op.2.2⟩
theorem vw_Op_isPlain : qz_vw yd_Op_isPlain := ⟨wt_734, wt_735⟩
def yd_Op_awaitsOperand : qz_Y := (⟨"StackAssembler$Op", "awaitsOperand", "()Z"⟩, prog_9_method_7_code, 1, (Option.some Jvm.ClassFile.FieldType.boolean), 3, { frames := 0, cells := 0, slots := 0, locals := 0 })
theorem mw_Op_awaitsOperand : qz_mw yd_Op_awaitsOperand 0 := ⟨wt_747, wt_6, ⟨pc_StackAssembler_Op.1, pc_StackAssembler_Op.2.1, pd___Z⟩, pc_StackAssembler_Op.2.2⟩
theorem vw_Op_awaitsOperand : qz_vw yd_Op_awaitsOperand := ⟨wt_745, wt_746⟩
def yd_Reader_beginFolded : qz_Y := (⟨"StackAssembler$Reader", "beginFolded", "(LStackAssembler$Level;)I"⟩, prog_11_method_12_code, 3, (Option.some Jvm.ClassFile.FieldType.int), 1, { frames := 2, cells := 0, slots := 0, locals := 40 })
theorem mw_Reader_beginFolded : qz_mw yd_Reader_beginFolded 1 := ⟨wt_732, wt_7, ⟨pc_StackAssembler_Reader.1, pc_StackAssembler_Reader.2.1, pd__LStackAssembler_Level__I⟩, pc_StackAssembler_Reader.2.2⟩
theorem vw_Reader_beginFolded : qz_vw yd_Reader_beginFolded := ⟨wt_731, wp_32⟩
def yd_Reader_beginPart : qz_Y := (⟨"StackAssembler$Reader", "beginPart", "(LStackAssembler$Level;LStackAssembler$Level;)I"⟩, prog_11_method_11_code, 4, (Option.some Jvm.ClassFile.FieldType.int), 1, { frames := 5, cells := 0, slots := 0, locals := 107 })
theorem pd__LStackAssembler_Level_LStackAssembler_Level__I : (parseMethodDescriptor "(LStackAssembler$Level;LStackAssembler$Level;)I").map (fun d => d.parameters.length) = some 2 := by decide +kernel
theorem mw_Reader_beginPart : qz_mw yd_Reader_beginPart 2 := ⟨wt_751, wt_7, ⟨pc_StackAssembler_Reader.1, pc_StackAssembler_Reader.2.1, pd__LStackAssembler_Level_LStackAssembler_Level__I⟩, pc_StackAssembler_Reader.2.2⟩
theorem vw_Reader_beginPart : qz_vw yd_Reader_beginPart := ⟨wt_750, wp_33⟩
def yd_Reader_behindOpening : qz_Y := (⟨"StackAssembler$Reader", "behindOpening", "(LStackAssembler$Level;)I"⟩, prog_11_method_9_code, 3, (Option.some Jvm.ClassFile.FieldType.int), 1, { frames := 6, cells := 0, slots := 0, locals := 130 })
theorem mw_Reader_behindOpening : qz_mw yd_Reader_behindOpening 1 := ⟨wt_707, wt_7, ⟨pc_StackAssembler_Reader.1, pc_StackAssembler_Reader.2.1, pd__LStackAssembler_Level__I⟩, pc_StackAssembler_Reader.2.2⟩
theorem vw_Reader_behindOpening : qz_vw yd_Reader_behindOpening := ⟨wt_706, wp_29⟩
def yd_Reader_close : qz_Y := (⟨"StackAssembler$Reader", "close", "()I"⟩, prog_11_method_6_code, 1, (Option.some Jvm.ClassFile.FieldType.int), 1, { frames := 1, cells := 0, slots := 0, locals := 21 })
theorem mw_Reader_close : qz_mw yd_Reader_close 0 := ⟨wt_762, wt_7, ⟨pc_StackAssembler_Reader.1, pc_StackAssembler_Reader.2.1, pd___I⟩, pc_StackAssembler_Reader.2.2⟩
theorem vw_Reader_close : qz_vw yd_Reader_close := ⟨wt_761, wp_35⟩
def yd_Reader_inModule : qz_Y := (⟨"StackAssembler$Reader", "inModule", "()I"⟩, prog_11_method_8_code, 1, (Option.some Jvm.ClassFile.FieldType.int), 1, { frames := 3, cells := 0, slots := 0, locals := 62 })
theorem mw_Reader_inModule : qz_mw yd_Reader_inModule 0 := ⟨wt_758, wt_7, ⟨pc_StackAssembler_Reader.1, pc_StackAssembler_Reader.2.1, pd___I⟩, pc_StackAssembler_Reader.2.2⟩
theorem vw_Reader_inModule : qz_vw yd_Reader_inModule := ⟨wt_757, wp_34⟩
def yd_Scanner_valueType : qz_Y := (⟨"StackAssembler$Scanner", "valueType", "()I"⟩, prog_12_method_13_code, 1, (Option.some Jvm.ClassFile.FieldType.int), 1, { frames := 5, cells := 0, slots := 0, locals := 107 })
theorem mw_Scanner_valueType : qz_mw yd_Scanner_valueType 0 := ⟨wt_770, wt_8, ⟨pc_StackAssembler_Scanner.1, pc_StackAssembler_Scanner.2.1, pd___I⟩, pc_StackAssembler_Scanner.2.2⟩
theorem vw_Scanner_valueType : qz_vw yd_Scanner_valueType := ⟨wt_768, wt_769⟩
def yd_Function_addLocal : qz_Y := (⟨"StackAssembler$Function", "addLocal", "(I)Z"⟩, prog_6_method_5_code, 2, (Option.some Jvm.ClassFile.FieldType.boolean), 3, { frames := 0, cells := 0, slots := 0, locals := 0 })
theorem mw_Function_addLocal : qz_mw yd_Function_addLocal 1 := ⟨wt_784, wt_4, ⟨pc_StackAssembler_Function.1, pc_StackAssembler_Function.2.1, pd__I_Z⟩, pc_StackAssembler_Function.2.2⟩
theorem vw_Function_addLocal : qz_vw yd_Function_addLocal := ⟨wt_782, wt_783⟩
def yd_Function_addParameter : qz_Y := (⟨"StackAssembler$Function", "addParameter", "(I)Z"⟩, prog_6_method_4_code, 2, (Option.some Jvm.ClassFile.FieldType.boolean), 3, { frames := 1, cells := 0, slots := 0, locals := 21 })
theorem mw_Function_addParameter : qz_mw yd_Function_addParameter 1 := ⟨wt_780, wt_4, ⟨pc_StackAssembler_Function.1, pc_StackAssembler_Function.2.1, pd__I_Z⟩, pc_StackAssembler_Function.2.2⟩
theorem vw_Function_addParameter : qz_vw yd_Function_addParameter := ⟨wt_778, wt_779⟩
def yd_Reader_declare : qz_Y := (⟨"StackAssembler$Reader", "declare", "(LStackAssembler$Level;I)Z"⟩, prog_11_method_15_code, 5, (Option.some Jvm.ClassFile.FieldType.boolean), 3, { frames := 2, cells := 0, slots := 0, locals := 42 })
theorem pd__LStackAssembler_Level_I_Z : (parseMethodDescriptor "(LStackAssembler$Level;I)Z").map (fun d => d.parameters.length) = some 2 := by decide +kernel
theorem mw_Reader_declare : qz_mw yd_Reader_declare 2 := ⟨wt_776, wt_7, ⟨pc_StackAssembler_Reader.1, pc_StackAssembler_Reader.2.1, pd__LStackAssembler_Level_I_Z⟩, pc_StackAssembler_Reader.2.2⟩
theorem vw_Reader_declare : qz_vw yd_Reader_declare := ⟨wt_775, wp_37⟩
def yd_Reader_inDeclaration : qz_Y := (⟨"StackAssembler$Reader", "inDeclaration", "(LStackAssembler$Level;)I"⟩, prog_11_method_14_code, 3, (Option.some Jvm.ClassFile.FieldType.int), 1, { frames := 6, cells := 0, slots := 0, locals := 127 })
theorem mw_Reader_inDeclaration : qz_mw yd_Reader_inDeclaration 1 := ⟨wt_766, wt_7, ⟨pc_StackAssembler_Reader.1, pc_StackAssembler_Reader.2.1, pd__LStackAssembler_Level__I⟩, pc_StackAssembler_Reader.2.2⟩
theorem vw_Reader_inDeclaration : qz_vw yd_Reader_inDeclaration := ⟨wt_765, wp_36⟩
def yd_Reader_setResult : qz_Y := (⟨"StackAssembler$Reader", "setResult", "(I)V"⟩, prog_11_method_17_code, 3, (Option.none : Option Jvm.ClassFile.FieldType), 0, { frames := 2, cells := 0, slots := 0, locals := 41 })
theorem mw_Reader_setResult : qz_mw yd_Reader_setResult 1 := ⟨wt_793, wt_7, ⟨pc_StackAssembler_Reader.1, pc_StackAssembler_Reader.2.1, pd__I_V⟩, pc_StackAssembler_Reader.2.2⟩
theorem vw_Reader_setResult : qz_vw yd_Reader_setResult := ⟨wt_792, wp_39⟩
def yd_Reader_inResult : qz_Y := (⟨"StackAssembler$Reader", "inResult", "(LStackAssembler$Level;)I"⟩, prog_11_method_16_code, 3, (Option.some Jvm.ClassFile.FieldType.int), 1, { frames := 6, cells := 0, slots := 0, locals := 127 })
theorem mw_Reader_inResult : qz_mw yd_Reader_inResult 1 := ⟨wt_789, wt_7, ⟨pc_StackAssembler_Reader.1, pc_StackAssembler_Reader.2.1, pd__LStackAssembler_Level__I⟩, pc_StackAssembler_Reader.2.2⟩
theorem vw_Reader_inResult : qz_vw yd_Reader_inResult := ⟨wt_788, wp_38⟩
def yd_Module_add : qz_Y := (⟨"StackAssembler$Module", "add", "(LStackAssembler$Op;J)Z"⟩, prog_8_method_7_code, 4, (Option.some Jvm.ClassFile.FieldType.boolean), 3, { frames := 2, cells := 0, slots := 0, locals := 41 })
theorem pd__LStackAssembler_Op_J_Z : (parseMethodDescriptor "(LStackAssembler$Op;J)Z").map (fun d => d.parameters.length) = some 2 := by decide +kernel
theorem mw_Module_add : qz_mw yd_Module_add 2 := ⟨wt_801, wt_3, ⟨pc_StackAssembler_Module.1, pc_StackAssembler_Module.2.1, pd__LStackAssembler_Op_J_Z⟩, pc_StackAssembler_Module.2.2⟩
theorem vw_Module_add : qz_vw yd_Module_add := ⟨wt_799, wt_800⟩
def yd_Reader_inFolded : qz_Y := (⟨"StackAssembler$Reader", "inFolded", "(LStackAssembler$Level;)I"⟩, prog_11_method_13_code, 2, (Option.some Jvm.ClassFile.FieldType.int), 1, { frames := 3, cells := 0, slots := 0, locals := 64 })
theorem mw_Reader_inFolded : qz_mw yd_Reader_inFolded 1 := ⟨wt_797, wt_7, ⟨pc_StackAssembler_Reader.1, pc_StackAssembler_Reader.2.1, pd__LStackAssembler_Level__I⟩, pc_StackAssembler_Reader.2.2⟩
theorem vw_Reader_inFolded : qz_vw yd_Reader_inFolded := ⟨wt_796, wp_40⟩
def yd_Reader_instructionIn : qz_Y := (⟨"StackAssembler$Reader", "instructionIn", "(LStackAssembler$Level;)I"⟩, prog_11_method_22_code, 3, (Option.some Jvm.ClassFile.FieldType.int), 1, { frames := 3, cells := 0, slots := 0, locals := 64 })
theorem mw_Reader_instructionIn : qz_mw yd_Reader_instructionIn 1 := ⟨wt_809, wt_7, ⟨pc_StackAssembler_Reader.1, pc_StackAssembler_Reader.2.1, pd__LStackAssembler_Level__I⟩, pc_StackAssembler_Reader.2.2⟩
theorem vw_Reader_instructionIn : qz_vw yd_Reader_instructionIn := ⟨wt_808, wp_42⟩
def yd_Reader_functionNamed : qz_Y := (⟨"StackAssembler$Reader", "functionNamed", "(I)I"⟩, prog_11_method_28_code, 3, (Option.some Jvm.ClassFile.FieldType.int), 1, { frames := 2, cells := 0, slots := 0, locals := 46 })
theorem mw_Reader_functionNamed : qz_mw yd_Reader_functionNamed 1 := ⟨wt_822, wt_7, ⟨pc_StackAssembler_Reader.1, pc_StackAssembler_Reader.2.1, pd__I_I⟩, pc_StackAssembler_Reader.2.2⟩
theorem vw_Reader_functionNamed : qz_vw yd_Reader_functionNamed := ⟨wt_821, wp_44⟩
def yd_Reader_giveName : qz_Y := (⟨"StackAssembler$Reader", "giveName", "(LStackAssembler$Level;)I"⟩, prog_11_method_20_code, 3, (Option.some Jvm.ClassFile.FieldType.int), 1, { frames := 3, cells := 0, slots := 0, locals := 68 })
theorem mw_Reader_giveName : qz_mw yd_Reader_giveName 1 := ⟨wt_818, wt_7, ⟨pc_StackAssembler_Reader.1, pc_StackAssembler_Reader.2.1, pd__LStackAssembler_Level__I⟩, pc_StackAssembler_Reader.2.2⟩
theorem vw_Reader_giveName : qz_vw yd_Reader_giveName := ⟨wt_817, wp_43⟩
def yd_Reader_inBody : qz_Y := (⟨"StackAssembler$Reader", "inBody", "(LStackAssembler$Level;)I"⟩, prog_11_method_19_code, 3, (Option.some Jvm.ClassFile.FieldType.int), 1, { frames := 4, cells := 0, slots := 0, locals := 90 })
theorem mw_Reader_inBody : qz_mw yd_Reader_inBody 1 := ⟨wt_805, wt_7, ⟨pc_StackAssembler_Reader.1, pc_StackAssembler_Reader.2.1, pd__LStackAssembler_Level__I⟩, pc_StackAssembler_Reader.2.2⟩
theorem vw_Reader_inBody : qz_vw yd_Reader_inBody := ⟨wt_804, wp_41⟩
def yd_Reader_judge : qz_Y := (⟨"StackAssembler$Reader", "judge", "(LStackAssembler$Level;)I"⟩, prog_11_method_3_code, 2, (Option.some Jvm.ClassFile.FieldType.int), 1, { frames := 7, cells := 0, slots := 0, locals := 152 })
theorem mw_Reader_judge : qz_mw yd_Reader_judge 1 := ⟨wt_631, wt_7, ⟨pc_StackAssembler_Reader.1, pc_StackAssembler_Reader.2.1, pd__LStackAssembler_Level__I⟩, pc_StackAssembler_Reader.2.2⟩
theorem vw_Reader_judge : qz_vw yd_Reader_judge := ⟨wt_630, wp_19⟩
def yd_Reader_findFunctions : qz_Y := (⟨"StackAssembler$Reader", "findFunctions", "()I"⟩, prog_11_method_29_code, 5, (Option.some Jvm.ClassFile.FieldType.int), 1, { frames := 3, cells := 0, slots := 0, locals := 68 })
theorem mw_Reader_findFunctions : qz_mw yd_Reader_findFunctions 0 := ⟨wt_826, wt_7, ⟨pc_StackAssembler_Reader.1, pc_StackAssembler_Reader.2.1, pd___I⟩, pc_StackAssembler_Reader.2.2⟩
theorem vw_Reader_findFunctions : qz_vw yd_Reader_findFunctions := ⟨wt_825, wp_45⟩
def yd_Reader_read : qz_Y := (⟨"StackAssembler$Reader", "read", "(LStackAssembler$Text;LStackAssembler$Module;)I"⟩, prog_11_method_2_code, 5, (Option.some Jvm.ClassFile.FieldType.int), 1, { frames := 8, cells := 0, slots := 0, locals := 173 })
theorem pd__LStackAssembler_Text_LStackAssembler_Module__I : (parseMethodDescriptor "(LStackAssembler$Text;LStackAssembler$Module;)I").map (fun d => d.parameters.length) = some 2 := by decide +kernel
theorem mw_Reader_read : qz_mw yd_Reader_read 2 := ⟨wt_529, wt_7, ⟨pc_StackAssembler_Reader.1, pc_StackAssembler_Reader.2.1, pd__LStackAssembler_Text_LStackAssembler_Module__I⟩, pc_StackAssembler_Reader.2.2⟩
theorem vw_Reader_read : qz_vw yd_Reader_read := ⟨wt_527, wt_528⟩
def yd_Frame_begin : qz_Y := (⟨"StackAssembler$Frame", "begin", "(III)V"⟩, prog_5_method_2_code, 4, (Option.none : Option Jvm.ClassFile.FieldType), 0, { frames := 0, cells := 0, slots := 0, locals := 0 })
theorem pd__III_V : (parseMethodDescriptor "(III)V").map (fun d => d.parameters.length) = some 3 := by decide +kernel
theorem mw_Frame_begin : qz_mw yd_Frame_begin 3 := ⟨wt_841, wt_12, ⟨pc_StackAssembler_Frame.1, pc_StackAssembler_Frame.2.1, pd__III_V⟩, pc_StackAssembler_Frame.2.2⟩
theorem vw_Frame_begin : qz_vw yd_Frame_begin := ⟨wt_839, wt_840⟩
def yd_Enum_ordinal : qz_Y := (⟨"java/lang/Enum", "ordinal", "()I"⟩, prog_16_method_2_code, 1, (Option.some Jvm.ClassFile.FieldType.int), 1, { frames := 0, cells := 0, slots := 0, locals := 0 })
theorem pc_java_lang_Enum : ("java/lang/Enum" : String) ≠ "java/lang/invoke/MethodHandle" ∧ ("java/lang/Enum" : String) ≠ "java/lang/invoke/VarHandle" ∧ plainName "java/lang/Enum" = true := by decide +kernel
theorem mw_Enum_ordinal : qz_mw yd_Enum_ordinal 0 := ⟨wt_853, wt_5, ⟨pc_java_lang_Enum.1, pc_java_lang_Enum.2.1, pd___I⟩, pc_java_lang_Enum.2.2⟩
def yd_Checker_take : qz_Y := (⟨"StackAssembler$Checker", "take", "(I)I"⟩, prog_3_method_16_code, 4, (Option.some Jvm.ClassFile.FieldType.int), 1, { frames := 0, cells := 0, slots := 0, locals := 0 })
theorem mw_Checker_take : qz_mw yd_Checker_take 1 := ⟨wt_862, wt_10, ⟨pc_StackAssembler_Checker.1, pc_StackAssembler_Checker.2.1, pd__I_I⟩, pc_StackAssembler_Checker.2.2⟩
theorem vw_Checker_take : qz_vw yd_Checker_take := ⟨wt_861, wp_49⟩
def yd_Checker_beginFrame : qz_Y := (⟨"StackAssembler$Checker", "beginFrame", "(LStackAssembler$Op;I)V"⟩, prog_3_method_6_code, 3, (Option.none : Option Jvm.ClassFile.FieldType), 0, { frames := 1, cells := 0, slots := 0, locals := 23 })
theorem pd__LStackAssembler_Op_I_V : (parseMethodDescriptor "(LStackAssembler$Op;I)V").map (fun d => d.parameters.length) = some 2 := by decide +kernel
theorem mw_Checker_beginFrame : qz_mw yd_Checker_beginFrame 2 := ⟨wt_857, wt_10, ⟨pc_StackAssembler_Checker.1, pc_StackAssembler_Checker.2.1, pd__LStackAssembler_Op_I_V⟩, pc_StackAssembler_Checker.2.2⟩
theorem vw_Checker_beginFrame : qz_vw yd_Checker_beginFrame := ⟨wt_856, wp_48⟩
def yd_Checker_takeResult : qz_Y := (⟨"StackAssembler$Checker", "takeResult", "(I)V"⟩, prog_3_method_15_code, 2, (Option.none : Option Jvm.ClassFile.FieldType), 0, { frames := 1, cells := 0, slots := 0, locals := 23 })
theorem mw_Checker_takeResult : qz_mw yd_Checker_takeResult 1 := ⟨wt_872, wt_10, ⟨pc_StackAssembler_Checker.1, pc_StackAssembler_Checker.2.1, pd__I_V⟩, pc_StackAssembler_Checker.2.2⟩
theorem vw_Checker_takeResult : qz_vw yd_Checker_takeResult := ⟨wt_871, wp_51⟩
def yd_Checker_endFrame : qz_Y := (⟨"StackAssembler$Checker", "endFrame", "()V"⟩, prog_3_method_7_code, 1, (Option.none : Option Jvm.ClassFile.FieldType), 0, { frames := 2, cells := 0, slots := 0, locals := 44 })
theorem mw_Checker_endFrame : qz_mw yd_Checker_endFrame 0 := ⟨wt_868, wt_10, ⟨pc_StackAssembler_Checker.1, pc_StackAssembler_Checker.2.1, pd___V⟩, pc_StackAssembler_Checker.2.2⟩
theorem vw_Checker_endFrame : qz_vw yd_Checker_endFrame := ⟨wt_867, wp_50⟩
def yd_Checker_restartFrame : qz_Y := (⟨"StackAssembler$Checker", "restartFrame", "()V"⟩, prog_3_method_8_code, 2, (Option.none : Option Jvm.ClassFile.FieldType), 0, { frames := 0, cells := 0, slots := 0, locals := 0 })
theorem mw_Checker_restartFrame : qz_mw yd_Checker_restartFrame 0 := ⟨wt_876, wt_10, ⟨pc_StackAssembler_Checker.1, pc_StackAssembler_Checker.2.1, pd___V⟩, pc_StackAssembler_Checker.2.2⟩
theorem vw_Checker_restartFrame : qz_vw yd_Checker_restartFrame := ⟨wt_875, wp_52⟩
def yd_Checker_put : qz_Y := (⟨"StackAssembler$Checker", "put", "(I)V"⟩, prog_3_method_17_code, 2, (Option.none : Option Jvm.ClassFile.FieldType), 0, { frames := 0, cells := 0, slots := 0, locals := 0 })
theorem mw_Checker_put : qz_mw yd_Checker_put 1 := ⟨wt_885, wt_10, ⟨pc_StackAssembler_Checker.1, pc_StackAssembler_Checker.2.1, pd__I_V⟩, pc_StackAssembler_Checker.2.2⟩
theorem vw_Checker_put : qz_vw yd_Checker_put := ⟨wt_884, wp_54⟩
def yd_Checker_leaveFrame : qz_Y := (⟨"StackAssembler$Checker", "leaveFrame", "()V"⟩, prog_3_method_9_code, 2, (Option.none : Option Jvm.ClassFile.FieldType), 0, { frames := 3, cells := 0, slots := 0, locals := 64 })
theorem mw_Checker_leaveFrame : qz_mw yd_Checker_leaveFrame 0 := ⟨wt_880, wt_10, ⟨pc_StackAssembler_Checker.1, pc_StackAssembler_Checker.2.1, pd___V⟩, pc_StackAssembler_Checker.2.2⟩
theorem vw_Checker_leaveFrame : qz_vw yd_Checker_leaveFrame := ⟨wt_879, wp_53⟩
def yd_Checker_makeUnreachable : qz_Y := (⟨"StackAssembler$Checker", "makeUnreachable", "()V"⟩, prog_3_method_10_code, 1, (Option.none : Option Jvm.ClassFile.FieldType), 0, { frames := 0, cells := 0, slots := 0, locals := 0 })
theorem mw_Checker_makeUnreachable : qz_mw yd_Checker_makeUnreachable 0 := ⟨wt_895, wt_10, ⟨pc_StackAssembler_Checker.1, pc_StackAssembler_Checker.2.1, pd___V⟩, pc_StackAssembler_Checker.2.2⟩
theorem vw_Checker_makeUnreachable : qz_vw yd_Checker_makeUnreachable := ⟨wt_894, wp_56⟩
def yd_Checker_checkBranch : qz_Y := (⟨"StackAssembler$Checker", "checkBranch", "(LStackAssembler$Op;J)V"⟩, prog_3_method_11_code, 5, (Option.none : Option Jvm.ClassFile.FieldType), 0, { frames := 2, cells := 0, slots := 0, locals := 44 })
theorem pd__LStackAssembler_Op_J_V : (parseMethodDescriptor "(LStackAssembler$Op;J)V").map (fun d => d.parameters.length) = some 2 := by decide +kernel
theorem mw_Checker_checkBranch : qz_mw yd_Checker_checkBranch 2 := ⟨wt_889, wt_10, ⟨pc_StackAssembler_Checker.1, pc_StackAssembler_Checker.2.1, pd__LStackAssembler_Op_J_V⟩, pc_StackAssembler_Checker.2.2⟩
theorem vw_Checker_checkBranch : qz_vw yd_Checker_checkBranch := ⟨wt_888, wp_55⟩
def yd_Module_hasFunction : qz_Y := (⟨"StackAssembler$Module", "hasFunction", "(J)Z"⟩, prog_8_method_3_code, 3, (Option.some Jvm.ClassFile.FieldType.boolean), 3, { frames := 0, cells := 0, slots := 0, locals := 0 })
theorem mw_Module_hasFunction : qz_mw yd_Module_hasFunction 1 := ⟨wt_500, wt_3, ⟨pc_StackAssembler_Module.1, pc_StackAssembler_Module.2.1, pd__J_Z⟩, pc_StackAssembler_Module.2.2⟩
theorem vw_Module_hasFunction : qz_vw yd_Module_hasFunction := ⟨wt_498, wt_499⟩
def yd_Checker_checkCall : qz_Y := (⟨"StackAssembler$Checker", "checkCall", "(J)V"⟩, prog_3_method_12_code, 5, (Option.none : Option Jvm.ClassFile.FieldType), 0, { frames := 1, cells := 0, slots := 0, locals := 23 })
theorem mw_Checker_checkCall : qz_mw yd_Checker_checkCall 1 := ⟨wt_899, wt_10, ⟨pc_StackAssembler_Checker.1, pc_StackAssembler_Checker.2.1, pd__J_V⟩, pc_StackAssembler_Checker.2.2⟩
theorem vw_Checker_checkCall : qz_vw yd_Checker_checkCall := ⟨wt_898, wp_57⟩
def yd_Checker_checkSelect : qz_Y := (⟨"StackAssembler$Checker", "checkSelect", "()V"⟩, prog_3_method_14_code, 3, (Option.none : Option Jvm.ClassFile.FieldType), 0, { frames := 1, cells := 0, slots := 0, locals := 23 })
theorem mw_Checker_checkSelect : qz_mw yd_Checker_checkSelect 0 := ⟨wt_905, wt_10, ⟨pc_StackAssembler_Checker.1, pc_StackAssembler_Checker.2.1, pd___V⟩, pc_StackAssembler_Checker.2.2⟩
theorem vw_Checker_checkSelect : qz_vw yd_Checker_checkSelect := ⟨wt_904, wp_58⟩
def yd_Function_hasSlot : qz_Y := (⟨"StackAssembler$Function", "hasSlot", "(J)Z"⟩, prog_6_method_3_code, 3, (Option.some Jvm.ClassFile.FieldType.boolean), 3, { frames := 0, cells := 0, slots := 0, locals := 0 })
theorem mw_Function_hasSlot : qz_mw yd_Function_hasSlot 1 := ⟨wt_461, wt_4, ⟨pc_StackAssembler_Function.1, pc_StackAssembler_Function.2.1, pd__J_Z⟩, pc_StackAssembler_Function.2.2⟩
theorem vw_Function_hasSlot : qz_vw yd_Function_hasSlot := ⟨wt_459, wt_460⟩
def yd_Checker_checkSlot : qz_Y := (⟨"StackAssembler$Checker", "checkSlot", "(LStackAssembler$Op;J)V"⟩, prog_3_method_13_code, 5, (Option.none : Option Jvm.ClassFile.FieldType), 0, { frames := 1, cells := 0, slots := 0, locals := 23 })
theorem mw_Checker_checkSlot : qz_mw yd_Checker_checkSlot 2 := ⟨wt_909, wt_10, ⟨pc_StackAssembler_Checker.1, pc_StackAssembler_Checker.2.1, pd__LStackAssembler_Op_J_V⟩, pc_StackAssembler_Checker.2.2⟩
theorem vw_Checker_checkSlot : qz_vw yd_Checker_checkSlot := ⟨wt_908, wp_59⟩
def yd_Checker_checkSimple : qz_Y := (⟨"StackAssembler$Checker", "checkSimple", "(LStackAssembler$Op;)V"⟩, prog_3_method_5_code, 3, (Option.none : Option Jvm.ClassFile.FieldType), 0, { frames := 1, cells := 0, slots := 0, locals := 23 })
theorem pd__LStackAssembler_Op__V : (parseMethodDescriptor "(LStackAssembler$Op;)V").map (fun d => d.parameters.length) = some 1 := by decide +kernel
theorem mw_Checker_checkSimple : qz_mw yd_Checker_checkSimple 1 := ⟨wt_918, wt_10, ⟨pc_StackAssembler_Checker.1, pc_StackAssembler_Checker.2.1, pd__LStackAssembler_Op__V⟩, pc_StackAssembler_Checker.2.2⟩
theorem vw_Checker_checkSimple : qz_vw yd_Checker_checkSimple := ⟨wt_917, wp_60⟩
def yd_Checker_check : qz_Y := (⟨"StackAssembler$Checker", "check", "(LStackAssembler$Op;J)V"⟩, prog_3_method_4_code, 4, (Option.none : Option Jvm.ClassFile.FieldType), 0, { frames := 4, cells := 0, slots := 0, locals := 85 })
theorem mw_Checker_check : qz_mw yd_Checker_check 2 := ⟨wt_845, wt_10, ⟨pc_StackAssembler_Checker.1, pc_StackAssembler_Checker.2.1, pd__LStackAssembler_Op_J_V⟩, pc_StackAssembler_Checker.2.2⟩
theorem vw_Checker_check : qz_vw yd_Checker_check := ⟨wt_844, wp_47⟩
def yd_Checker_checkFunction : qz_Y := (⟨"StackAssembler$Checker", "checkFunction", "()I"⟩, prog_3_method_3_code, 2, (Option.some Jvm.ClassFile.FieldType.int), 1, { frames := 5, cells := 0, slots := 0, locals := 108 })
theorem mw_Checker_checkFunction : qz_mw yd_Checker_checkFunction 0 := ⟨wt_837, wt_10, ⟨pc_StackAssembler_Checker.1, pc_StackAssembler_Checker.2.1, pd___I⟩, pc_StackAssembler_Checker.2.2⟩
theorem vw_Checker_checkFunction : qz_vw yd_Checker_checkFunction := ⟨wt_836, wp_46⟩
def yd_Checker_accepts : qz_Y := (⟨"StackAssembler$Checker", "accepts", "(LStackAssembler$Module;)Z"⟩, prog_3_method_2_code, 4, (Option.some Jvm.ClassFile.FieldType.boolean), 3, { frames := 6, cells := 0, slots := 0, locals := 129 })
theorem pd__LStackAssembler_Module__Z : (parseMethodDescriptor "(LStackAssembler$Module;)Z").map (fun d => d.parameters.length) = some 1 := by decide +kernel
theorem mw_Checker_accepts : qz_mw yd_Checker_accepts 1 := ⟨wt_833, wt_10, ⟨pc_StackAssembler_Checker.1, pc_StackAssembler_Checker.2.1, pd__LStackAssembler_Module__Z⟩, pc_StackAssembler_Checker.2.2⟩
theorem vw_Checker_accepts : qz_vw yd_Checker_accepts := ⟨wt_831, wt_832⟩
def yd_SA_assemble : qz_Y := (⟨"StackAssembler", "assemble", "()I"⟩, prog_1_method_5_code, 3, (Option.some Jvm.ClassFile.FieldType.int), 1, { frames := 9, cells := 0, slots := 0, locals := 197 })
theorem mw_SA_assemble : qz_mw yd_SA_assemble 0 := ⟨wt_525, wt_1, ⟨pc_StackAssembler.1, pc_StackAssembler.2.1, pd___I⟩, pc_StackAssembler.2.2⟩
theorem vw_SA_assemble : qz_vw yd_SA_assemble := ⟨wt_523, wt_524⟩
def yd_Encoder_add : qz_Y := (⟨"StackAssembler$Encoder", "add", "(I)V"⟩, prog_4_method_16_code, 2, (Option.none : Option Jvm.ClassFile.FieldType), 0, { frames := 0, cells := 0, slots := 0, locals := 0 })
theorem mw_Encoder_add : qz_mw yd_Encoder_add 1 := ⟨wt_412, wt_13, ⟨pc_StackAssembler_Encoder.1, pc_StackAssembler_Encoder.2.1, pd__I_V⟩, pc_StackAssembler_Encoder.2.2⟩
theorem vw_Encoder_add : qz_vw yd_Encoder_add := ⟨wt_411, wp_0⟩
def yd_Function_isCalledLike : qz_Y := (⟨"StackAssembler$Function", "isCalledLike", "(LStackAssembler$Function;)Z"⟩, prog_6_method_6_code, 4, (Option.some Jvm.ClassFile.FieldType.boolean), 3, { frames := 0, cells := 0, slots := 0, locals := 0 })
theorem pd__LStackAssembler_Function__Z : (parseMethodDescriptor "(LStackAssembler$Function;)Z").map (fun d => d.parameters.length) = some 1 := by decide +kernel
theorem mw_Function_isCalledLike : qz_mw yd_Function_isCalledLike 1 := ⟨wt_424, wt_4, ⟨pc_StackAssembler_Function.1, pc_StackAssembler_Function.2.1, pd__LStackAssembler_Function__Z⟩, pc_StackAssembler_Function.2.2⟩
theorem vw_Function_isCalledLike : qz_vw yd_Function_isCalledLike := ⟨wt_422, wt_423⟩
def yd_Encoder_numberSignatures : qz_Y := (⟨"StackAssembler$Encoder", "numberSignatures", "(LStackAssembler$Module;)I"⟩, prog_4_method_5_code, 5, (Option.some Jvm.ClassFile.FieldType.int), 1, { frames := 1, cells := 0, slots := 0, locals := 23 })
theorem pd__LStackAssembler_Module__I : (parseMethodDescriptor "(LStackAssembler$Module;)I").map (fun d => d.parameters.length) = some 1 := by decide +kernel
theorem mw_Encoder_numberSignatures : qz_mw yd_Encoder_numberSignatures 1 := ⟨wt_420, wt_13, ⟨pc_StackAssembler_Encoder.1, pc_StackAssembler_Encoder.2.1, pd__LStackAssembler_Module__I⟩, pc_StackAssembler_Encoder.2.2⟩
theorem vw_Encoder_numberSignatures : qz_vw yd_Encoder_numberSignatures := ⟨wt_419, wp_2⟩
def yd_Encoder_addUnsigned : qz_Y := (⟨"StackAssembler$Encoder", "addUnsigned", "(J)V"⟩, prog_4_method_14_code, 6, (Option.none : Option Jvm.ClassFile.FieldType), 0, { frames := 1, cells := 0, slots := 0, locals := 21 })
theorem mw_Encoder_addUnsigned : qz_mw yd_Encoder_addUnsigned 1 := ⟨wt_428, wt_13, ⟨pc_StackAssembler_Encoder.1, pc_StackAssembler_Encoder.2.1, pd__J_V⟩, pc_StackAssembler_Encoder.2.2⟩
theorem vw_Encoder_addUnsigned : qz_vw yd_Encoder_addUnsigned := ⟨wt_427, wp_3⟩
def yd_Encoder_addType : qz_Y := (⟨"StackAssembler$Encoder", "addType", "(I)V"⟩, prog_4_method_13_code, 2, (Option.none : Option Jvm.ClassFile.FieldType), 0, { frames := 1, cells := 0, slots := 0, locals := 21 })
theorem mw_Encoder_addType : qz_mw yd_Encoder_addType 1 := ⟨wt_437, wt_13, ⟨pc_StackAssembler_Encoder.1, pc_StackAssembler_Encoder.2.1, pd__I_V⟩, pc_StackAssembler_Encoder.2.2⟩
theorem vw_Encoder_addType : qz_vw yd_Encoder_addType := ⟨wt_436, wp_5⟩
def yd_Encoder_addSignature : qz_Y := (⟨"StackAssembler$Encoder", "addSignature", "(LStackAssembler$Function;)V"⟩, prog_4_method_6_code, 3, (Option.none : Option Jvm.ClassFile.FieldType), 0, { frames := 2, cells := 0, slots := 0, locals := 46 })
theorem pd__LStackAssembler_Function__V : (parseMethodDescriptor "(LStackAssembler$Function;)V").map (fun d => d.parameters.length) = some 1 := by decide +kernel
theorem mw_Encoder_addSignature : qz_mw yd_Encoder_addSignature 1 := ⟨wt_433, wt_13, ⟨pc_StackAssembler_Encoder.1, pc_StackAssembler_Encoder.2.1, pd__LStackAssembler_Function__V⟩, pc_StackAssembler_Encoder.2.2⟩
theorem vw_Encoder_addSignature : qz_vw yd_Encoder_addSignature := ⟨wt_432, wp_4⟩
def yd_Encoder_putSizeAhead : qz_Y := (⟨"StackAssembler$Encoder", "putSizeAhead", "(I)V"⟩, prog_4_method_17_code, 6, (Option.none : Option Jvm.ClassFile.FieldType), 0, { frames := 2, cells := 0, slots := 0, locals := 46 })
theorem mw_Encoder_putSizeAhead : qz_mw yd_Encoder_putSizeAhead 1 := ⟨wt_441, wt_13, ⟨pc_StackAssembler_Encoder.1, pc_StackAssembler_Encoder.2.1, pd__I_V⟩, pc_StackAssembler_Encoder.2.2⟩
theorem vw_Encoder_putSizeAhead : qz_vw yd_Encoder_putSizeAhead := ⟨wt_440, wp_6⟩
def yd_Encoder_addSignatures : qz_Y := (⟨"StackAssembler$Encoder", "addSignatures", "(LStackAssembler$Module;)V"⟩, prog_4_method_4_code, 5, (Option.none : Option Jvm.ClassFile.FieldType), 0, { frames := 3, cells := 0, slots := 0, locals := 71 })
theorem mw_Encoder_addSignatures : qz_mw yd_Encoder_addSignatures 1 := ⟨wt_416, wt_13, ⟨pc_StackAssembler_Encoder.1, pc_StackAssembler_Encoder.2.1, pd__LStackAssembler_Module__V⟩, pc_StackAssembler_Encoder.2.2⟩
theorem vw_Encoder_addSignatures : qz_vw yd_Encoder_addSignatures := ⟨wt_415, wp_1⟩
def yd_Encoder_addSignatureNumbers : qz_Y := (⟨"StackAssembler$Encoder", "addSignatureNumbers", "(LStackAssembler$Module;)V"⟩, prog_4_method_7_code, 4, (Option.none : Option Jvm.ClassFile.FieldType), 0, { frames := 3, cells := 0, slots := 0, locals := 71 })
theorem mw_Encoder_addSignatureNumbers : qz_mw yd_Encoder_addSignatureNumbers 1 := ⟨wt_445, wt_13, ⟨pc_StackAssembler_Encoder.1, pc_StackAssembler_Encoder.2.1, pd__LStackAssembler_Module__V⟩, pc_StackAssembler_Encoder.2.2⟩
theorem vw_Encoder_addSignatureNumbers : qz_vw yd_Encoder_addSignatureNumbers := ⟨wt_444, wp_7⟩
def yd_Encoder_endsRun : qz_Y := (⟨"StackAssembler$Encoder", "endsRun", "(LStackAssembler$Function;I)Z"⟩, prog_4_method_11_code, 2, (Option.some Jvm.ClassFile.FieldType.boolean), 3, { frames := 1, cells := 0, slots := 0, locals := 22 })
theorem pd__LStackAssembler_Function_I_Z : (parseMethodDescriptor "(LStackAssembler$Function;I)Z").map (fun d => d.parameters.length) = some 2 := by decide +kernel
theorem mw_Encoder_endsRun : qz_mw yd_Encoder_endsRun 2 := ⟨wt_465, wt_13, ⟨pc_StackAssembler_Encoder.1, pc_StackAssembler_Encoder.2.1, pd__LStackAssembler_Function_I_Z⟩, pc_StackAssembler_Encoder.2.2⟩
theorem vs_Encoder_endsRun : Cond.static yd_Encoder_endsRun.1 ∈ kz_TT := wt_464
def yd_Encoder_addRuns : qz_Y := (⟨"StackAssembler$Encoder", "addRuns", "(LStackAssembler$Function;)V"⟩, prog_4_method_10_code, 5, (Option.none : Option Jvm.ClassFile.FieldType), 0, { frames := 2, cells := 0, slots := 0, locals := 46 })
theorem mw_Encoder_addRuns : qz_mw yd_Encoder_addRuns 1 := ⟨wt_457, wt_13, ⟨pc_StackAssembler_Encoder.1, pc_StackAssembler_Encoder.2.1, pd__LStackAssembler_Function__V⟩, pc_StackAssembler_Encoder.2.2⟩
theorem vw_Encoder_addRuns : qz_vw yd_Encoder_addRuns := ⟨wt_456, wp_10⟩
def yd_Encoder_addSigned : qz_Y := (⟨"StackAssembler$Encoder", "addSigned", "(J)V"⟩, prog_4_method_15_code, 6, (Option.none : Option Jvm.ClassFile.FieldType), 0, { frames := 1, cells := 0, slots := 0, locals := 21 })
theorem mw_Encoder_addSigned : qz_mw yd_Encoder_addSigned 1 := ⟨wt_473, wt_13, ⟨pc_StackAssembler_Encoder.1, pc_StackAssembler_Encoder.2.1, pd__J_V⟩, pc_StackAssembler_Encoder.2.2⟩
theorem vw_Encoder_addSigned : qz_vw yd_Encoder_addSigned := ⟨wt_472, wp_12⟩
def yd_Encoder_addOperand : qz_Y := (⟨"StackAssembler$Encoder", "addOperand", "(LStackAssembler$Op;J)V"⟩, prog_4_method_12_code, 4, (Option.none : Option Jvm.ClassFile.FieldType), 0, { frames := 2, cells := 0, slots := 0, locals := 46 })
theorem mw_Encoder_addOperand : qz_mw yd_Encoder_addOperand 2 := ⟨wt_469, wt_13, ⟨pc_StackAssembler_Encoder.1, pc_StackAssembler_Encoder.2.1, pd__LStackAssembler_Op_J_V⟩, pc_StackAssembler_Encoder.2.2⟩
theorem vw_Encoder_addOperand : qz_vw yd_Encoder_addOperand := ⟨wt_468, wp_11⟩
def yd_Encoder_addBody : qz_Y := (⟨"StackAssembler$Encoder", "addBody", "(LStackAssembler$Module;LStackAssembler$Function;)V"⟩, prog_4_method_9_code, 6, (Option.none : Option Jvm.ClassFile.FieldType), 0, { frames := 3, cells := 0, slots := 0, locals := 71 })
theorem pd__LStackAssembler_Module_LStackAssembler_Function__V : (parseMethodDescriptor "(LStackAssembler$Module;LStackAssembler$Function;)V").map (fun d => d.parameters.length) = some 2 := by decide +kernel
theorem mw_Encoder_addBody : qz_mw yd_Encoder_addBody 2 := ⟨wt_453, wt_13, ⟨pc_StackAssembler_Encoder.1, pc_StackAssembler_Encoder.2.1, pd__LStackAssembler_Module_LStackAssembler_Function__V⟩, pc_StackAssembler_Encoder.2.2⟩
theorem vw_Encoder_addBody : qz_vw yd_Encoder_addBody := ⟨wt_452, wp_9⟩
def yd_Encoder_addBodies : qz_Y := (⟨"StackAssembler$Encoder", "addBodies", "(LStackAssembler$Module;)V"⟩, prog_4_method_8_code, 4, (Option.none : Option Jvm.ClassFile.FieldType), 0, { frames := 4, cells := 0, slots := 0, locals := 96 })
theorem mw_Encoder_addBodies : qz_mw yd_Encoder_addBodies 1 := ⟨wt_449, wt_13, ⟨pc_StackAssembler_Encoder.1, pc_StackAssembler_Encoder.2.1, pd__LStackAssembler_Module__V⟩, pc_StackAssembler_Encoder.2.2⟩
theorem vw_Encoder_addBodies : qz_vw yd_Encoder_addBodies := ⟨wt_448, wp_8⟩
def yd_Encoder_write : qz_Y := (⟨"StackAssembler$Encoder", "write", "(LStackAssembler$Module;)V"⟩, prog_4_method_3_code, 3, (Option.none : Option Jvm.ClassFile.FieldType), 0, { frames := 5, cells := 0, slots := 0, locals := 119 })
theorem mw_Encoder_write : qz_mw yd_Encoder_write 1 := ⟨wt_406, wt_13, ⟨pc_StackAssembler_Encoder.1, pc_StackAssembler_Encoder.2.1, pd__LStackAssembler_Module__V⟩, pc_StackAssembler_Encoder.2.2⟩
theorem vw_Encoder_write : qz_vw yd_Encoder_write := ⟨wt_404, wt_405⟩
def yd_SA_encode : qz_Y := (⟨"StackAssembler", "encode", "()I"⟩, prog_1_method_6_code, 1, (Option.some Jvm.ClassFile.FieldType.int), 1, { frames := 6, cells := 0, slots := 0, locals := 141 })
theorem mw_SA_encode : qz_mw yd_SA_encode 0 := ⟨wt_402, wt_1, ⟨pc_StackAssembler.1, pc_StackAssembler.2.1, pd___I⟩, pc_StackAssembler.2.2⟩
theorem vw_SA_encode : qz_vw yd_SA_encode := ⟨wt_400, wt_401⟩
def yd_Encoder_at : qz_Y := (⟨"StackAssembler$Encoder", "at", "(I)I"⟩, prog_4_method_2_code, 2, (Option.some Jvm.ClassFile.FieldType.int), 1, { frames := 0, cells := 0, slots := 0, locals := 0 })
theorem mw_Encoder_at : qz_mw yd_Encoder_at 1 := ⟨wt_484, wt_13, ⟨pc_StackAssembler_Encoder.1, pc_StackAssembler_Encoder.2.1, pd__I_I⟩, pc_StackAssembler_Encoder.2.2⟩
theorem vw_Encoder_at : qz_vw yd_Encoder_at := ⟨wt_482, wt_483⟩
def yd_SA_octet : qz_Y := (⟨"StackAssembler", "octet", "(I)I"⟩, prog_1_method_7_code, 2, (Option.some Jvm.ClassFile.FieldType.int), 1, { frames := 1, cells := 0, slots := 0, locals := 21 })
theorem mw_SA_octet : qz_mw yd_SA_octet 1 := ⟨wt_480, wt_1, ⟨pc_StackAssembler.1, pc_StackAssembler.2.1, pd__I_I⟩, pc_StackAssembler.2.2⟩
theorem vw_SA_octet : qz_vw yd_SA_octet := ⟨wt_478, wt_479⟩
def yd_Text_addAll : qz_Y := (⟨"StackAssembler$Text", "addAll", "(Ljava/lang/String;)V"⟩, prog_13_method_4_code, 3, (Option.none : Option Jvm.ClassFile.FieldType), 0, { frames := 4, cells := 0, slots := 0, locals := 85 })
theorem pd__Ljava_lang_String__V : (parseMethodDescriptor "(Ljava/lang/String;)V").map (fun d => d.parameters.length) = some 1 := by decide +kernel
theorem mw_Text_addAll : qz_mw yd_Text_addAll 1 := ⟨wt_1033, wt_2, ⟨pc_StackAssembler_Text.1, pc_StackAssembler_Text.2.1, pd__Ljava_lang_String__V⟩, pc_StackAssembler_Text.2.2⟩
theorem vw_Text_addAll : qz_vw yd_Text_addAll := ⟨wt_1031, wt_1032⟩
def yd_Printer_writeType : qz_Y := (⟨"StackAssembler$Printer", "writeType", "(I)V"⟩, prog_10_method_6_code, 2, (Option.none : Option Jvm.ClassFile.FieldType), 0, { frames := 5, cells := 0, slots := 0, locals := 107 })
theorem mw_Printer_writeType : qz_mw yd_Printer_writeType 1 := ⟨wt_1051, wt_14, ⟨pc_StackAssembler_Printer.1, pc_StackAssembler_Printer.2.1, pd__I_V⟩, pc_StackAssembler_Printer.2.2⟩
theorem vw_Printer_writeType : qz_vw yd_Printer_writeType := ⟨wt_1050, wp_64⟩
def yd_Printer_writeSlots : qz_Y := (⟨"StackAssembler$Printer", "writeSlots", "(Ljava/lang/String;LStackAssembler$Function;II)V"⟩, prog_10_method_4_code, 6, (Option.none : Option Jvm.ClassFile.FieldType), 0, { frames := 6, cells := 0, slots := 0, locals := 128 })
theorem pd__Ljava_lang_String_LStackAssembler_Function_II_V : (parseMethodDescriptor "(Ljava/lang/String;LStackAssembler$Function;II)V").map (fun d => d.parameters.length) = some 4 := by decide +kernel
theorem mw_Printer_writeSlots : qz_mw yd_Printer_writeSlots 4 := ⟨wt_1045, wt_14, ⟨pc_StackAssembler_Printer.1, pc_StackAssembler_Printer.2.1, pd__Ljava_lang_String_LStackAssembler_Function_II_V⟩, pc_StackAssembler_Printer.2.2⟩
theorem vw_Printer_writeSlots : qz_vw yd_Printer_writeSlots := ⟨wt_1044, wp_63⟩
def yd_Printer_writeResult : qz_Y := (⟨"StackAssembler$Printer", "writeResult", "(I)V"⟩, prog_10_method_5_code, 2, (Option.none : Option Jvm.ClassFile.FieldType), 0, { frames := 6, cells := 0, slots := 0, locals := 128 })
theorem mw_Printer_writeResult : qz_mw yd_Printer_writeResult 1 := ⟨wt_1057, wt_14, ⟨pc_StackAssembler_Printer.1, pc_StackAssembler_Printer.2.1, pd__I_V⟩, pc_StackAssembler_Printer.2.2⟩
theorem vw_Printer_writeResult : qz_vw yd_Printer_writeResult := ⟨wt_1056, wp_65⟩
def yd_Text_addNumber : qz_Y := (⟨"StackAssembler$Text", "addNumber", "(J)V"⟩, prog_13_method_5_code, 6, (Option.none : Option Jvm.ClassFile.FieldType), 0, { frames := 1, cells := 0, slots := 0, locals := 21 })
theorem mw_Text_addNumber : qz_mw yd_Text_addNumber 1 := ⟨wt_1068, wt_2, ⟨pc_StackAssembler_Text.1, pc_StackAssembler_Text.2.1, pd__J_V⟩, pc_StackAssembler_Text.2.2⟩
theorem vw_Text_addNumber : qz_vw yd_Text_addNumber := ⟨wt_1066, wt_1067⟩
def yd_Printer_writeInstruction : qz_Y := (⟨"StackAssembler$Printer", "writeInstruction", "(LStackAssembler$Op;J)V"⟩, prog_10_method_7_code, 4, (Option.none : Option Jvm.ClassFile.FieldType), 0, { frames := 7, cells := 0, slots := 0, locals := 149 })
theorem mw_Printer_writeInstruction : qz_mw yd_Printer_writeInstruction 2 := ⟨wt_1063, wt_14, ⟨pc_StackAssembler_Printer.1, pc_StackAssembler_Printer.2.1, pd__LStackAssembler_Op_J_V⟩, pc_StackAssembler_Printer.2.2⟩
theorem vw_Printer_writeInstruction : qz_vw yd_Printer_writeInstruction := ⟨wt_1062, wp_66⟩
def yd_Printer_writeFunction : qz_Y := (⟨"StackAssembler$Printer", "writeFunction", "(LStackAssembler$Module;LStackAssembler$Function;)V"⟩, prog_10_method_3_code, 4, (Option.none : Option Jvm.ClassFile.FieldType), 0, { frames := 8, cells := 0, slots := 0, locals := 172 })
theorem mw_Printer_writeFunction : qz_mw yd_Printer_writeFunction 2 := ⟨wt_1039, wt_14, ⟨pc_StackAssembler_Printer.1, pc_StackAssembler_Printer.2.1, pd__LStackAssembler_Module_LStackAssembler_Function__V⟩, pc_StackAssembler_Printer.2.2⟩
theorem vw_Printer_writeFunction : qz_vw yd_Printer_writeFunction := ⟨wt_1038, wp_62⟩
def yd_Printer_write : qz_Y := (⟨"StackAssembler$Printer", "write", "(LStackAssembler$Module;LStackAssembler$Text;)V"⟩, prog_10_method_2_code, 4, (Option.none : Option Jvm.ClassFile.FieldType), 0, { frames := 9, cells := 0, slots := 0, locals := 195 })
theorem pd__LStackAssembler_Module_LStackAssembler_Text__V : (parseMethodDescriptor "(LStackAssembler$Module;LStackAssembler$Text;)V").map (fun d => d.parameters.length) = some 2 := by decide +kernel
theorem mw_Printer_write : qz_mw yd_Printer_write 2 := ⟨wt_1028, wt_14, ⟨pc_StackAssembler_Printer.1, pc_StackAssembler_Printer.2.1, pd__LStackAssembler_Module_LStackAssembler_Text__V⟩, pc_StackAssembler_Printer.2.2⟩
theorem vw_Printer_write : qz_vw yd_Printer_write := ⟨wt_1026, wt_1027⟩
def yd_SA_print : qz_Y := (⟨"StackAssembler", "print", "()I"⟩, prog_1_method_8_code, 2, (Option.some Jvm.ClassFile.FieldType.int), 1, { frames := 10, cells := 0, slots := 0, locals := 218 })
theorem mw_SA_print : qz_mw yd_SA_print 0 := ⟨wt_1024, wt_1, ⟨pc_StackAssembler.1, pc_StackAssembler.2.1, pd___I⟩, pc_StackAssembler.2.2⟩
theorem vw_SA_print : qz_vw yd_SA_print := ⟨wt_1022, wt_1023⟩
def yd_SA_place : qz_Y := (⟨"StackAssembler", "place", "()I"⟩, prog_1_method_9_code, 1, (Option.some Jvm.ClassFile.FieldType.int), 1, { frames := 0, cells := 0, slots := 0, locals := 0 })
theorem mw_SA_place : qz_mw yd_SA_place 0 := ⟨wt_488, wt_1, ⟨pc_StackAssembler.1, pc_StackAssembler.2.1, pd___I⟩, pc_StackAssembler.2.2⟩
theorem vw_SA_place : qz_vw yd_SA_place := ⟨wt_486, wt_487⟩
def yd_SA_functions : qz_Y := (⟨"StackAssembler", "functions", "()I"⟩, prog_1_method_10_code, 1, (Option.some Jvm.ClassFile.FieldType.int), 1, { frames := 0, cells := 0, slots := 0, locals := 0 })
theorem mw_SA_functions : qz_mw yd_SA_functions 0 := ⟨wt_492, wt_1, ⟨pc_StackAssembler.1, pc_StackAssembler.2.1, pd___I⟩, pc_StackAssembler.2.2⟩
theorem vw_SA_functions : qz_vw yd_SA_functions := ⟨wt_490, wt_491⟩
def yd_SA_function : qz_Y := (⟨"StackAssembler", "function", "(II)I"⟩, prog_1_method_11_code, 4, (Option.some Jvm.ClassFile.FieldType.int), 1, { frames := 1, cells := 0, slots := 0, locals := 22 })
theorem pd__II_I : (parseMethodDescriptor "(II)I").map (fun d => d.parameters.length) = some 2 := by decide +kernel
theorem mw_SA_function : qz_mw yd_SA_function 2 := ⟨wt_496, wt_1, ⟨pc_StackAssembler.1, pc_StackAssembler.2.1, pd__II_I⟩, pc_StackAssembler.2.2⟩
theorem vw_SA_function : qz_vw yd_SA_function := ⟨wt_494, wt_495⟩
def yd_Module_hasInstruction : qz_Y := (⟨"StackAssembler$Module", "hasInstruction", "(II)Z"⟩, prog_8_method_4_code, 3, (Option.some Jvm.ClassFile.FieldType.boolean), 3, { frames := 1, cells := 0, slots := 0, locals := 22 })
theorem mw_Module_hasInstruction : qz_mw yd_Module_hasInstruction 2 := ⟨wt_510, wt_3, ⟨pc_StackAssembler_Module.1, pc_StackAssembler_Module.2.1, pd__II_Z⟩, pc_StackAssembler_Module.2.2⟩
theorem vw_Module_hasInstruction : qz_vw yd_Module_hasInstruction := ⟨wt_508, wt_509⟩
def yd_SA_instruction : qz_Y := (⟨"StackAssembler", "instruction", "(II)I"⟩, prog_1_method_12_code, 3, (Option.some Jvm.ClassFile.FieldType.int), 1, { frames := 2, cells := 0, slots := 0, locals := 44 })
theorem mw_SA_instruction : qz_mw yd_SA_instruction 2 := ⟨wt_506, wt_1, ⟨pc_StackAssembler.1, pc_StackAssembler.2.1, pd__II_I⟩, pc_StackAssembler.2.2⟩
theorem vw_SA_instruction : qz_vw yd_SA_instruction := ⟨wt_504, wt_505⟩
def yd_SA_immediate : qz_Y := (⟨"StackAssembler", "immediate", "(II)J"⟩, prog_1_method_13_code, 3, (Option.some Jvm.ClassFile.FieldType.long), 2, { frames := 2, cells := 0, slots := 0, locals := 44 })
theorem pd__II_J : (parseMethodDescriptor "(II)J").map (fun d => d.parameters.length) = some 2 := by decide +kernel
theorem mw_SA_immediate : qz_mw yd_SA_immediate 2 := ⟨wt_515, wt_1, ⟨pc_StackAssembler.1, pc_StackAssembler.2.1, pd__II_J⟩, pc_StackAssembler.2.2⟩
theorem vw_SA_immediate : qz_vw yd_SA_immediate := ⟨wt_513, wt_514⟩
def yd_Md_init : qz_Y := (⟨"StackAssemblerModel", "<init>", "()V"⟩, prog_15_method_1_code, 1, (Option.none : Option Jvm.ClassFile.FieldType), 0, { frames := 1, cells := 41, slots := 4442, locals := 20 })
theorem pc_StackAssemblerModel : ("StackAssemblerModel" : String) ≠ "java/lang/invoke/MethodHandle" ∧ ("StackAssemblerModel" : String) ≠ "java/lang/invoke/VarHandle" ∧ plainName "StackAssemblerModel" = true := by decide +kernel
theorem mw_Md_init : qz_mw yd_Md_init 0 := ⟨wt_1080, wt_15, ⟨pc_StackAssemblerModel.1, pc_StackAssemblerModel.2.1, pd___V⟩, pc_StackAssemblerModel.2.2⟩
theorem vi_Md_init : Cond.instanceMethod yd_Md_init.1 ∈ kz_TT ∧ yd_Md_init.1.name = "<init>" ∧ yd_Md_init.2.2.2.1 = none := ⟨wt_1079, rfl, rfl⟩
def yd_Md_thrown : qz_Y := (⟨"StackAssemblerModel", "thrown", "()I"⟩, prog_15_method_2_code, 1, (Option.some Jvm.ClassFile.FieldType.int), 1, { frames := 0, cells := 0, slots := 0, locals := 0 })
theorem mw_Md_thrown : qz_mw yd_Md_thrown 0 := ⟨wt_1314, wt_15, ⟨pc_StackAssemblerModel.1, pc_StackAssemblerModel.2.1, pd___I⟩, pc_StackAssemblerModel.2.2⟩
theorem vw_Md_thrown : qz_vw yd_Md_thrown := ⟨wt_1312, wt_1313⟩
def yd_Md_raise : qz_Y := (⟨"StackAssemblerModel", "raise", "(I)I"⟩, prog_15_method_3_code, 2, (Option.some Jvm.ClassFile.FieldType.int), 1, { frames := 0, cells := 0, slots := 0, locals := 0 })
theorem mw_Md_raise : qz_mw yd_Md_raise 1 := ⟨wt_1493, wt_15, ⟨pc_StackAssemblerModel.1, pc_StackAssemblerModel.2.1, pd__I_I⟩, pc_StackAssemblerModel.2.2⟩
theorem vw_Md_raise : qz_vw yd_Md_raise := ⟨wt_1492, wp_101⟩
def yd_Md_type : qz_Y := (⟨"StackAssemblerModel", "type", "(J)Z"⟩, prog_15_method_4_code, 7, (Option.some Jvm.ClassFile.FieldType.boolean), 3, { frames := 0, cells := 0, slots := 0, locals := 0 })
theorem mw_Md_type : qz_mw yd_Md_type 1 := ⟨wt_1318, wt_15, ⟨pc_StackAssemblerModel.1, pc_StackAssemblerModel.2.1, pd__J_Z⟩, pc_StackAssemblerModel.2.2⟩
theorem vw_Md_type : qz_vw yd_Md_type := ⟨wt_1316, wt_1317⟩
def yd_Md_wipe : qz_Y := (⟨"StackAssemblerModel", "wipe", "()V"⟩, prog_15_method_5_code, 1, (Option.none : Option Jvm.ClassFile.FieldType), 0, { frames := 0, cells := 0, slots := 0, locals := 0 })
theorem mw_Md_wipe : qz_mw yd_Md_wipe 0 := ⟨wt_1322, wt_15, ⟨pc_StackAssemblerModel.1, pc_StackAssemblerModel.2.1, pd___V⟩, pc_StackAssemblerModel.2.2⟩
theorem vw_Md_wipe : qz_vw yd_Md_wipe := ⟨wt_1320, wt_1321⟩
def yd_Md_character : qz_Y := (⟨"StackAssemblerModel", "character", "(I)C"⟩, prog_15_method_6_code, 2, (Option.some Jvm.ClassFile.FieldType.char), 4, { frames := 0, cells := 0, slots := 0, locals := 0 })
theorem mw_Md_character : qz_mw yd_Md_character 1 := ⟨wt_1326, wt_15, ⟨pc_StackAssemblerModel.1, pc_StackAssemblerModel.2.1, pd__I_C⟩, pc_StackAssemblerModel.2.2⟩
theorem vw_Md_character : qz_vw yd_Md_character := ⟨wt_1324, wt_1325⟩
def yd_Md_ch : qz_Y := (⟨"StackAssemblerModel", "ch", "(I)I"⟩, prog_15_method_7_code, 2, (Option.some Jvm.ClassFile.FieldType.int), 1, { frames := 0, cells := 0, slots := 0, locals := 0 })
theorem mw_Md_ch : qz_mw yd_Md_ch 1 := ⟨wt_1342, wt_15, ⟨pc_StackAssemblerModel.1, pc_StackAssemblerModel.2.1, pd__I_I⟩, pc_StackAssemblerModel.2.2⟩
theorem vw_Md_ch : qz_vw yd_Md_ch := ⟨wt_1341, wp_69⟩
def yd_Md_isDigit : qz_Y := (⟨"StackAssemblerModel", "isDigit", "(I)Z"⟩, prog_15_method_8_code, 1, (Option.some Jvm.ClassFile.FieldType.boolean), 3, { frames := 0, cells := 0, slots := 0, locals := 0 })
theorem mw_Md_isDigit : qz_mw yd_Md_isDigit 1 := ⟨wt_1352, wt_15, ⟨pc_StackAssemblerModel.1, pc_StackAssemblerModel.2.1, pd__I_Z⟩, pc_StackAssemblerModel.2.2⟩
theorem vs_Md_isDigit : Cond.static yd_Md_isDigit.1 ∈ kz_TT := wt_1351
def yd_Md_isSign : qz_Y := (⟨"StackAssemblerModel", "isSign", "(I)Z"⟩, prog_15_method_9_code, 4, (Option.some Jvm.ClassFile.FieldType.boolean), 3, { frames := 1, cells := 0, slots := 0, locals := 20 })
theorem mw_Md_isSign : qz_mw yd_Md_isSign 1 := ⟨wt_1349, wt_15, ⟨pc_StackAssemblerModel.1, pc_StackAssemblerModel.2.1, pd__I_Z⟩, pc_StackAssemblerModel.2.2⟩
theorem vs_Md_isSign : Cond.static yd_Md_isSign.1 ∈ kz_TT := wt_1348
def yd_Md_comment : qz_Y := (⟨"StackAssemblerModel", "comment", "()Z"⟩, prog_15_method_10_code, 5, (Option.some Jvm.ClassFile.FieldType.boolean), 3, { frames := 1, cells := 0, slots := 0, locals := 21 })
theorem mw_Md_comment : qz_mw yd_Md_comment 0 := ⟨wt_1346, wt_15, ⟨pc_StackAssemblerModel.1, pc_StackAssemblerModel.2.1, pd___Z⟩, pc_StackAssemblerModel.2.2⟩
theorem vw_Md_comment : qz_vw yd_Md_comment := ⟨wt_1345, wp_70⟩
def yd_Md_readWord : qz_Y := (⟨"StackAssemblerModel", "readWord", "()V"⟩, prog_15_method_12_code, 2, (Option.none : Option Jvm.ClassFile.FieldType), 0, { frames := 2, cells := 0, slots := 0, locals := 43 })
theorem mw_Md_readWord : qz_mw yd_Md_readWord 0 := ⟨wt_1356, wt_15, ⟨pc_StackAssemblerModel.1, pc_StackAssemblerModel.2.1, pd___V⟩, pc_StackAssemblerModel.2.2⟩
theorem vw_Md_readWord : qz_vw yd_Md_readWord := ⟨wt_1355, wp_71⟩
def yd_Md_next : qz_Y := (⟨"StackAssemblerModel", "next", "()V"⟩, prog_15_method_11_code, 3, (Option.none : Option Jvm.ClassFile.FieldType), 0, { frames := 3, cells := 0, slots := 0, locals := 64 })
theorem mw_Md_next : qz_mw yd_Md_next 0 := ⟨wt_1338, wt_15, ⟨pc_StackAssemblerModel.1, pc_StackAssemblerModel.2.1, pd___V⟩, pc_StackAssemblerModel.2.2⟩
theorem vw_Md_next : qz_vw yd_Md_next := ⟨wt_1337, wp_68⟩
def yd_Md_is : qz_Y := (⟨"StackAssemblerModel", "is", "(JI)Z"⟩, prog_15_method_13_code, 4, (Option.some Jvm.ClassFile.FieldType.boolean), 3, { frames := 0, cells := 0, slots := 0, locals := 0 })
theorem pd__JI_Z : (parseMethodDescriptor "(JI)Z").map (fun d => d.parameters.length) = some 2 := by decide +kernel
theorem mw_Md_is : qz_mw yd_Md_is 2 := ⟨wt_1373, wt_15, ⟨pc_StackAssemblerModel.1, pc_StackAssemblerModel.2.1, pd__JI_Z⟩, pc_StackAssemblerModel.2.2⟩
theorem vw_Md_is : qz_vw yd_Md_is := ⟨wt_1372, wp_75⟩
def yd_Md_isId : qz_Y := (⟨"StackAssemblerModel", "isId", "()Z"⟩, prog_15_method_14_code, 1, (Option.some Jvm.ClassFile.FieldType.boolean), 3, { frames := 0, cells := 0, slots := 0, locals := 0 })
theorem mw_Md_isId : qz_mw yd_Md_isId 0 := ⟨wt_1382, wt_15, ⟨pc_StackAssemblerModel.1, pc_StackAssemblerModel.2.1, pd___Z⟩, pc_StackAssemblerModel.2.2⟩
theorem vw_Md_isId : qz_vw yd_Md_isId := ⟨wt_1381, wp_77⟩
def yd_Md_fail : qz_Y := (⟨"StackAssemblerModel", "fail", "(I)Z"⟩, prog_15_method_15_code, 2, (Option.some Jvm.ClassFile.FieldType.boolean), 3, { frames := 0, cells := 0, slots := 0, locals := 0 })
theorem mw_Md_fail : qz_mw yd_Md_fail 1 := ⟨wt_1364, wt_15, ⟨pc_StackAssemblerModel.1, pc_StackAssemblerModel.2.1, pd__I_Z⟩, pc_StackAssemblerModel.2.2⟩
theorem vw_Md_fail : qz_vw yd_Md_fail := ⟨wt_1363, wp_73⟩
def yd_Md_pass : qz_Y := (⟨"StackAssemblerModel", "pass", "(I)Z"⟩, prog_15_method_16_code, 2, (Option.some Jvm.ClassFile.FieldType.boolean), 3, { frames := 4, cells := 0, slots := 0, locals := 86 })
theorem mw_Md_pass : qz_mw yd_Md_pass 1 := ⟨wt_1360, wt_15, ⟨pc_StackAssemblerModel.1, pc_StackAssemblerModel.2.1, pd__I_Z⟩, pc_StackAssemblerModel.2.2⟩
theorem vw_Md_pass : qz_vw yd_Md_pass := ⟨wt_1359, wp_72⟩
def yd_Md_passWord : qz_Y := (⟨"StackAssemblerModel", "passWord", "(JI)Z"⟩, prog_15_method_17_code, 4, (Option.some Jvm.ClassFile.FieldType.boolean), 3, { frames := 4, cells := 0, slots := 0, locals := 86 })
theorem mw_Md_passWord : qz_mw yd_Md_passWord 2 := ⟨wt_1369, wt_15, ⟨pc_StackAssemblerModel.1, pc_StackAssemblerModel.2.1, pd__JI_Z⟩, pc_StackAssemblerModel.2.2⟩
theorem vw_Md_passWord : qz_vw yd_Md_passWord := ⟨wt_1368, wp_74⟩
def yd_Md_sameName : qz_Y := (⟨"StackAssemblerModel", "sameName", "(IIII)Z"⟩, prog_15_method_18_code, 7, (Option.some Jvm.ClassFile.FieldType.boolean), 3, { frames := 0, cells := 0, slots := 0, locals := 0 })
theorem pd__IIII_Z : (parseMethodDescriptor "(IIII)Z").map (fun d => d.parameters.length) = some 4 := by decide +kernel
theorem mw_Md_sameName : qz_mw yd_Md_sameName 4 := ⟨wt_1386, wt_15, ⟨pc_StackAssemblerModel.1, pc_StackAssemblerModel.2.1, pd__IIII_Z⟩, pc_StackAssemblerModel.2.2⟩
theorem vw_Md_sameName : qz_vw yd_Md_sameName := ⟨wt_1385, wp_78⟩
def yd_Md_digits : qz_Y := (⟨"StackAssemblerModel", "digits", "(I)Z"⟩, prog_15_method_19_code, 6, (Option.some Jvm.ClassFile.FieldType.boolean), 3, { frames := 0, cells := 0, slots := 0, locals := 0 })
theorem mw_Md_digits : qz_mw yd_Md_digits 1 := ⟨wt_1434, wt_15, ⟨pc_StackAssemblerModel.1, pc_StackAssemblerModel.2.1, pd__I_Z⟩, pc_StackAssemblerModel.2.2⟩
theorem vw_Md_digits : qz_vw yd_Md_digits := ⟨wt_1433, wp_88⟩
def yd_Md_below32 : qz_Y := (⟨"StackAssemblerModel", "below32", "(J)Z"⟩, prog_15_method_20_code, 2, (Option.some Jvm.ClassFile.FieldType.boolean), 3, { frames := 0, cells := 0, slots := 0, locals := 0 })
theorem mw_Md_below32 : qz_mw yd_Md_below32 1 := ⟨wt_1440, wt_15, ⟨pc_StackAssemblerModel.1, pc_StackAssemblerModel.2.1, pd__J_Z⟩, pc_StackAssemblerModel.2.2⟩
theorem vs_Md_below32 : Cond.static yd_Md_below32.1 ∈ kz_TT := wt_1439
def yd_Md_constant : qz_Y := (⟨"StackAssemblerModel", "constant", "(Z)Z"⟩, prog_15_method_21_code, 5, (Option.some Jvm.ClassFile.FieldType.boolean), 3, { frames := 4, cells := 0, slots := 0, locals := 86 })
theorem pd__Z_Z : (parseMethodDescriptor "(Z)Z").map (fun d => d.parameters.length) = some 1 := by decide +kernel
theorem mw_Md_constant : qz_mw yd_Md_constant 1 := ⟨wt_1430, wt_15, ⟨pc_StackAssemblerModel.1, pc_StackAssemblerModel.2.1, pd__Z_Z⟩, pc_StackAssemblerModel.2.2⟩
theorem vw_Md_constant : qz_vw yd_Md_constant := ⟨wt_1429, wp_87⟩
def yd_Md_labelOf : qz_Y := (⟨"StackAssemblerModel", "labelOf", "()I"⟩, prog_15_method_23_code, 3, (Option.some Jvm.ClassFile.FieldType.int), 1, { frames := 1, cells := 0, slots := 0, locals := 26 })
theorem mw_Md_labelOf : qz_mw yd_Md_labelOf 0 := ⟨wt_1449, wt_15, ⟨pc_StackAssemblerModel.1, pc_StackAssemblerModel.2.1, pd___I⟩, pc_StackAssemblerModel.2.2⟩
theorem vw_Md_labelOf : qz_vw yd_Md_labelOf := ⟨wt_1448, wp_90⟩
def yd_Md_variableOf : qz_Y := (⟨"StackAssemblerModel", "variableOf", "(I)I"⟩, prog_15_method_24_code, 3, (Option.some Jvm.ClassFile.FieldType.int), 1, { frames := 1, cells := 0, slots := 0, locals := 26 })
theorem mw_Md_variableOf : qz_mw yd_Md_variableOf 1 := ⟨wt_1395, wt_15, ⟨pc_StackAssemblerModel.1, pc_StackAssemblerModel.2.1, pd__I_I⟩, pc_StackAssemblerModel.2.2⟩
theorem vw_Md_variableOf : qz_vw yd_Md_variableOf := ⟨wt_1394, wp_80⟩
def yd_Md_index : qz_Y := (⟨"StackAssemblerModel", "index", "(II)Z"⟩, prog_15_method_22_code, 4, (Option.some Jvm.ClassFile.FieldType.boolean), 3, { frames := 4, cells := 0, slots := 0, locals := 86 })
theorem mw_Md_index : qz_mw yd_Md_index 2 := ⟨wt_1445, wt_15, ⟨pc_StackAssemblerModel.1, pc_StackAssemblerModel.2.1, pd__II_Z⟩, pc_StackAssemblerModel.2.2⟩
theorem vw_Md_index : qz_vw yd_Md_index := ⟨wt_1444, wp_89⟩
def yd_Md_instructionWord : qz_Y := (⟨"StackAssemblerModel", "instructionWord", "()I"⟩, prog_15_method_25_code, 3, (Option.some Jvm.ClassFile.FieldType.int), 1, { frames := 0, cells := 0, slots := 0, locals := 0 })
theorem mw_Md_instructionWord : qz_mw yd_Md_instructionWord 0 := ⟨wt_1419, wt_15, ⟨pc_StackAssemblerModel.1, pc_StackAssemblerModel.2.1, pd___I⟩, pc_StackAssemblerModel.2.2⟩
theorem vw_Md_instructionWord : qz_vw yd_Md_instructionWord := ⟨wt_1418, wp_85⟩
def yd_Md_isPlain : qz_Y := (⟨"StackAssemblerModel", "isPlain", "(I)Z"⟩, prog_15_method_26_code, 1, (Option.some Jvm.ClassFile.FieldType.boolean), 3, { frames := 0, cells := 0, slots := 0, locals := 0 })
theorem mw_Md_isPlain : qz_mw yd_Md_isPlain 1 := ⟨wt_1422, wt_15, ⟨pc_StackAssemblerModel.1, pc_StackAssemblerModel.2.1, pd__I_Z⟩, pc_StackAssemblerModel.2.2⟩
theorem vs_Md_isPlain : Cond.static yd_Md_isPlain.1 ∈ kz_TT := wt_1421
def yd_Md_variable : qz_Y := (⟨"StackAssemblerModel", "variable", "(IZII)Z"⟩, prog_15_method_30_code, 7, (Option.some Jvm.ClassFile.FieldType.boolean), 3, { frames := 4, cells := 0, slots := 0, locals := 86 })
theorem pd__IZII_Z : (parseMethodDescriptor "(IZII)Z").map (fun d => d.parameters.length) = some 4 := by decide +kernel
theorem mw_Md_variable : qz_mw yd_Md_variable 4 := ⟨wt_1399, wt_15, ⟨pc_StackAssemblerModel.1, pc_StackAssemblerModel.2.1, pd__IZII_Z⟩, pc_StackAssemblerModel.2.2⟩
theorem vw_Md_variable : qz_vw yd_Md_variable := ⟨wt_1398, wp_81⟩
def yd_Md_variables : qz_Y := (⟨"StackAssemblerModel", "variables", "(IZ)Z"⟩, prog_15_method_31_code, 5, (Option.some Jvm.ClassFile.FieldType.boolean), 3, { frames := 5, cells := 0, slots := 0, locals := 112 })
theorem pd__IZ_Z : (parseMethodDescriptor "(IZ)Z").map (fun d => d.parameters.length) = some 2 := by decide +kernel
theorem mw_Md_variables : qz_mw yd_Md_variables 2 := ⟨wt_1391, wt_15, ⟨pc_StackAssemblerModel.1, pc_StackAssemblerModel.2.1, pd__IZ_Z⟩, pc_StackAssemblerModel.2.2⟩
theorem vw_Md_variables : qz_vw yd_Md_variables := ⟨wt_1390, wp_79⟩
def yd_Md_readType : qz_Y := (⟨"StackAssemblerModel", "readType", "()I"⟩, prog_15_method_29_code, 2, (Option.some Jvm.ClassFile.FieldType.int), 1, { frames := 4, cells := 0, slots := 0, locals := 86 })
theorem mw_Md_readType : qz_mw yd_Md_readType 0 := ⟨wt_1406, wt_15, ⟨pc_StackAssemblerModel.1, pc_StackAssemblerModel.2.1, pd___I⟩, pc_StackAssemblerModel.2.2⟩
theorem vw_Md_readType : qz_vw yd_Md_readType := ⟨wt_1405, wp_82⟩
def yd_Md_readImmediate : qz_Y := (⟨"StackAssemblerModel", "readImmediate", "(II)Z"⟩, prog_15_method_34_code, 4, (Option.some Jvm.ClassFile.FieldType.boolean), 3, { frames := 5, cells := 0, slots := 0, locals := 110 })
theorem mw_Md_readImmediate : qz_mw yd_Md_readImmediate 2 := ⟨wt_1426, wt_15, ⟨pc_StackAssemblerModel.1, pc_StackAssemblerModel.2.1, pd__II_Z⟩, pc_StackAssemblerModel.2.2⟩
theorem vw_Md_readImmediate : qz_vw yd_Md_readImmediate := ⟨wt_1425, wp_86⟩
def yd_Md_fold : qz_Y := (⟨"StackAssemblerModel", "fold", "(I)Z"⟩, prog_15_method_35_code, 4, (Option.some Jvm.ClassFile.FieldType.boolean), 3, { frames := 6, cells := 0, slots := 0, locals := 133 })
theorem mw_Md_fold : qz_mw yd_Md_fold 1 := ⟨wt_1415, wt_15, ⟨pc_StackAssemblerModel.1, pc_StackAssemblerModel.2.1, pd__I_Z⟩, pc_StackAssemblerModel.2.2⟩
theorem vw_Md_fold : qz_vw yd_Md_fold := ⟨wt_1414, wp_84⟩
def yd_Md_open : qz_Y := (⟨"StackAssemblerModel", "open", "()Z"⟩, prog_15_method_38_code, 1, (Option.some Jvm.ClassFile.FieldType.boolean), 3, { frames := 4, cells := 0, slots := 0, locals := 86 })
theorem mw_Md_open : qz_mw yd_Md_open 0 := ⟨wt_1457, wt_15, ⟨pc_StackAssemblerModel.1, pc_StackAssemblerModel.2.1, pd___Z⟩, pc_StackAssemblerModel.2.2⟩
theorem vw_Md_open : qz_vw yd_Md_open := ⟨wt_1456, wp_92⟩
def yd_Md_hasRoom : qz_Y := (⟨"StackAssemblerModel", "hasRoom", "()Z"⟩, prog_15_method_33_code, 1, (Option.some Jvm.ClassFile.FieldType.boolean), 3, { frames := 1, cells := 0, slots := 0, locals := 21 })
theorem mw_Md_hasRoom : qz_mw yd_Md_hasRoom 0 := ⟨wt_1461, wt_15, ⟨pc_StackAssemblerModel.1, pc_StackAssemblerModel.2.1, pd___Z⟩, pc_StackAssemblerModel.2.2⟩
theorem vw_Md_hasRoom : qz_vw yd_Md_hasRoom := ⟨wt_1460, wp_93⟩
def yd_Md_emit : qz_Y := (⟨"StackAssemblerModel", "emit", "(IJ)I"⟩, prog_15_method_32_code, 4, (Option.some Jvm.ClassFile.FieldType.int), 1, { frames := 0, cells := 0, slots := 0, locals := 0 })
theorem pd__IJ_I : (parseMethodDescriptor "(IJ)I").map (fun d => d.parameters.length) = some 2 := by decide +kernel
theorem mw_Md_emit : qz_mw yd_Md_emit 2 := ⟨wt_1465, wt_15, ⟨pc_StackAssemblerModel.1, pc_StackAssemblerModel.2.1, pd__IJ_I⟩, pc_StackAssemblerModel.2.2⟩
theorem vw_Md_emit : qz_vw yd_Md_emit := ⟨wt_1464, wp_94⟩
def yd_Md_noteCall : qz_Y := (⟨"StackAssemblerModel", "noteCall", "(II)V"⟩, prog_15_method_36_code, 3, (Option.none : Option Jvm.ClassFile.FieldType), 0, { frames := 0, cells := 0, slots := 0, locals := 0 })
theorem mw_Md_noteCall : qz_mw yd_Md_noteCall 2 := ⟨wt_1469, wt_15, ⟨pc_StackAssemblerModel.1, pc_StackAssemblerModel.2.1, pd__II_V⟩, pc_StackAssemblerModel.2.2⟩
theorem vw_Md_noteCall : qz_vw yd_Md_noteCall := ⟨wt_1468, wp_95⟩
def yd_Md_inFold : qz_Y := (⟨"StackAssemblerModel", "inFold", "(I)Z"⟩, prog_15_method_37_code, 2, (Option.some Jvm.ClassFile.FieldType.boolean), 3, { frames := 7, cells := 0, slots := 0, locals := 156 })
theorem mw_Md_inFold : qz_mw yd_Md_inFold 1 := ⟨wt_1453, wt_15, ⟨pc_StackAssemblerModel.1, pc_StackAssemblerModel.2.1, pd__I_Z⟩, pc_StackAssemblerModel.2.2⟩
theorem vw_Md_inFold : qz_vw yd_Md_inFold := ⟨wt_1452, wp_91⟩
def yd_Md_beginBlock : qz_Y := (⟨"StackAssemblerModel", "beginBlock", "(II)Z"⟩, prog_15_method_40_code, 5, (Option.some Jvm.ClassFile.FieldType.boolean), 3, { frames := 7, cells := 0, slots := 0, locals := 156 })
theorem mw_Md_beginBlock : qz_mw yd_Md_beginBlock 2 := ⟨wt_1477, wt_15, ⟨pc_StackAssemblerModel.1, pc_StackAssemblerModel.2.1, pd__II_Z⟩, pc_StackAssemblerModel.2.2⟩
theorem vw_Md_beginBlock : qz_vw yd_Md_beginBlock := ⟨wt_1476, wp_97⟩
def yd_Md_blockName : qz_Y := (⟨"StackAssemblerModel", "blockName", "(I)Z"⟩, prog_15_method_39_code, 2, (Option.some Jvm.ClassFile.FieldType.boolean), 3, { frames := 4, cells := 0, slots := 0, locals := 86 })
theorem mw_Md_blockName : qz_mw yd_Md_blockName 1 := ⟨wt_1485, wt_15, ⟨pc_StackAssemblerModel.1, pc_StackAssemblerModel.2.1, pd__I_Z⟩, pc_StackAssemblerModel.2.2⟩
theorem vw_Md_blockName : qz_vw yd_Md_blockName := ⟨wt_1484, wp_99⟩
def yd_Md_turnBlock : qz_Y := (⟨"StackAssemblerModel", "turnBlock", "(I)Z"⟩, prog_15_method_41_code, 5, (Option.some Jvm.ClassFile.FieldType.boolean), 3, { frames := 5, cells := 0, slots := 0, locals := 107 })
theorem mw_Md_turnBlock : qz_mw yd_Md_turnBlock 1 := ⟨wt_1481, wt_15, ⟨pc_StackAssemblerModel.1, pc_StackAssemblerModel.2.1, pd__I_Z⟩, pc_StackAssemblerModel.2.2⟩
theorem vw_Md_turnBlock : qz_vw yd_Md_turnBlock := ⟨wt_1480, wp_98⟩
def yd_Md_readInstruction : qz_Y := (⟨"StackAssemblerModel", "readInstruction", "(I)Z"⟩, prog_15_method_42_code, 4, (Option.some Jvm.ClassFile.FieldType.boolean), 3, { frames := 8, cells := 0, slots := 0, locals := 180 })
theorem mw_Md_readInstruction : qz_mw yd_Md_readInstruction 1 := ⟨wt_1473, wt_15, ⟨pc_StackAssemblerModel.1, pc_StackAssemblerModel.2.1, pd__I_Z⟩, pc_StackAssemblerModel.2.2⟩
theorem vw_Md_readInstruction : qz_vw yd_Md_readInstruction := ⟨wt_1472, wp_96⟩
def yd_Md_body : qz_Y := (⟨"StackAssemblerModel", "body", "(IZ)Z"⟩, prog_15_method_43_code, 5, (Option.some Jvm.ClassFile.FieldType.boolean), 3, { frames := 9, cells := 0, slots := 0, locals := 203 })
theorem mw_Md_body : qz_mw yd_Md_body 2 := ⟨wt_1411, wt_15, ⟨pc_StackAssemblerModel.1, pc_StackAssemblerModel.2.1, pd__IZ_Z⟩, pc_StackAssemblerModel.2.2⟩
theorem vw_Md_body : qz_vw yd_Md_body := ⟨wt_1410, wp_83⟩
def yd_Md_readFunction : qz_Y := (⟨"StackAssemblerModel", "readFunction", "(I)Z"⟩, prog_15_method_28_code, 4, (Option.some Jvm.ClassFile.FieldType.boolean), 3, { frames := 10, cells := 0, slots := 0, locals := 227 })
theorem mw_Md_readFunction : qz_mw yd_Md_readFunction 1 := ⟨wt_1378, wt_15, ⟨pc_StackAssemblerModel.1, pc_StackAssemblerModel.2.1, pd__I_Z⟩, pc_StackAssemblerModel.2.2⟩
theorem vw_Md_readFunction : qz_vw yd_Md_readFunction := ⟨wt_1377, wp_76⟩
def yd_Md_readModule : qz_Y := (⟨"StackAssemblerModel", "readModule", "()Z"⟩, prog_15_method_27_code, 1, (Option.some Jvm.ClassFile.FieldType.boolean), 3, { frames := 11, cells := 0, slots := 0, locals := 250 })
theorem mw_Md_readModule : qz_mw yd_Md_readModule 0 := ⟨wt_1334, wt_15, ⟨pc_StackAssemblerModel.1, pc_StackAssemblerModel.2.1, pd___Z⟩, pc_StackAssemblerModel.2.2⟩
theorem vw_Md_readModule : qz_vw yd_Md_readModule := ⟨wt_1333, wp_67⟩
def yd_Md_resolve : qz_Y := (⟨"StackAssemblerModel", "resolve", "()Z"⟩, prog_15_method_44_code, 4, (Option.some Jvm.ClassFile.FieldType.boolean), 3, { frames := 1, cells := 0, slots := 0, locals := 26 })
theorem mw_Md_resolve : qz_mw yd_Md_resolve 0 := ⟨wt_1489, wt_15, ⟨pc_StackAssemblerModel.1, pc_StackAssemblerModel.2.1, pd___Z⟩, pc_StackAssemblerModel.2.2⟩
theorem vw_Md_resolve : qz_vw yd_Md_resolve := ⟨wt_1488, wp_100⟩
def yd_Md_bad : qz_Y := (⟨"StackAssemblerModel", "bad", "()V"⟩, prog_15_method_45_code, 1, (Option.none : Option Jvm.ClassFile.FieldType), 0, { frames := 0, cells := 0, slots := 0, locals := 0 })
theorem mw_Md_bad : qz_mw yd_Md_bad 0 := ⟨wt_1537, wt_15, ⟨pc_StackAssemblerModel.1, pc_StackAssemblerModel.2.1, pd___V⟩, pc_StackAssemblerModel.2.2⟩
theorem vw_Md_bad : qz_vw yd_Md_bad := ⟨wt_1536, wp_112⟩
def yd_Md_take : qz_Y := (⟨"StackAssemblerModel", "take", "(I)I"⟩, prog_15_method_46_code, 4, (Option.some Jvm.ClassFile.FieldType.int), 1, { frames := 0, cells := 0, slots := 0, locals := 0 })
theorem mw_Md_take : qz_mw yd_Md_take 1 := ⟨wt_1513, wt_15, ⟨pc_StackAssemblerModel.1, pc_StackAssemblerModel.2.1, pd__I_I⟩, pc_StackAssemblerModel.2.2⟩
theorem vw_Md_take : qz_vw yd_Md_take := ⟨wt_1512, wp_106⟩
def yd_Md_put : qz_Y := (⟨"StackAssemblerModel", "put", "(I)V"⟩, prog_15_method_47_code, 2, (Option.none : Option Jvm.ClassFile.FieldType), 0, { frames := 0, cells := 0, slots := 0, locals := 0 })
theorem mw_Md_put : qz_mw yd_Md_put 1 := ⟨wt_1529, wt_15, ⟨pc_StackAssemblerModel.1, pc_StackAssemblerModel.2.1, pd__I_V⟩, pc_StackAssemblerModel.2.2⟩
theorem vw_Md_put : qz_vw yd_Md_put := ⟨wt_1528, wp_110⟩
def yd_Md_takeAndPut : qz_Y := (⟨"StackAssemblerModel", "takeAndPut", "(I)V"⟩, prog_15_method_48_code, 3, (Option.none : Option Jvm.ClassFile.FieldType), 0, { frames := 1, cells := 0, slots := 0, locals := 23 })
theorem mw_Md_takeAndPut : qz_mw yd_Md_takeAndPut 1 := ⟨wt_1541, wt_15, ⟨pc_StackAssemblerModel.1, pc_StackAssemblerModel.2.1, pd__I_V⟩, pc_StackAssemblerModel.2.2⟩
theorem vw_Md_takeAndPut : qz_vw yd_Md_takeAndPut := ⟨wt_1540, wp_113⟩
def yd_Md_takeResult : qz_Y := (⟨"StackAssemblerModel", "takeResult", "(I)V"⟩, prog_15_method_49_code, 3, (Option.none : Option Jvm.ClassFile.FieldType), 0, { frames := 1, cells := 0, slots := 0, locals := 23 })
theorem mw_Md_takeResult : qz_mw yd_Md_takeResult 1 := ⟨wt_1509, wt_15, ⟨pc_StackAssemblerModel.1, pc_StackAssemblerModel.2.1, pd__I_V⟩, pc_StackAssemblerModel.2.2⟩
theorem vw_Md_takeResult : qz_vw yd_Md_takeResult := ⟨wt_1508, wp_105⟩
def yd_Md_die : qz_Y := (⟨"StackAssemblerModel", "die", "()V"⟩, prog_15_method_50_code, 1, (Option.none : Option Jvm.ClassFile.FieldType), 0, { frames := 0, cells := 0, slots := 0, locals := 0 })
theorem mw_Md_die : qz_mw yd_Md_die 0 := ⟨wt_1521, wt_15, ⟨pc_StackAssemblerModel.1, pc_StackAssemblerModel.2.1, pd___V⟩, pc_StackAssemblerModel.2.2⟩
theorem vw_Md_die : qz_vw yd_Md_die := ⟨wt_1520, wp_108⟩
def yd_Md_frame : qz_Y := (⟨"StackAssemblerModel", "frame", "(III)V"⟩, prog_15_method_51_code, 4, (Option.none : Option Jvm.ClassFile.FieldType), 0, { frames := 0, cells := 0, slots := 0, locals := 0 })
theorem mw_Md_frame : qz_mw yd_Md_frame 3 := ⟨wt_1501, wt_15, ⟨pc_StackAssemblerModel.1, pc_StackAssemblerModel.2.1, pd__III_V⟩, pc_StackAssemblerModel.2.2⟩
theorem vw_Md_frame : qz_vw yd_Md_frame := ⟨wt_1500, wp_103⟩
def yd_Md_endFrame : qz_Y := (⟨"StackAssemblerModel", "endFrame", "()V"⟩, prog_15_method_52_code, 2, (Option.none : Option Jvm.ClassFile.FieldType), 0, { frames := 2, cells := 0, slots := 0, locals := 45 })
theorem mw_Md_endFrame : qz_mw yd_Md_endFrame 0 := ⟨wt_1505, wt_15, ⟨pc_StackAssemblerModel.1, pc_StackAssemblerModel.2.1, pd___V⟩, pc_StackAssemblerModel.2.2⟩
theorem vw_Md_endFrame : qz_vw yd_Md_endFrame := ⟨wt_1504, wp_104⟩
def yd_Md_control : qz_Y := (⟨"StackAssemblerModel", "control", "(II)V"⟩, prog_15_method_53_code, 4, (Option.none : Option Jvm.ClassFile.FieldType), 0, { frames := 3, cells := 0, slots := 0, locals := 66 })
theorem mw_Md_control : qz_mw yd_Md_control 2 := ⟨wt_1525, wt_15, ⟨pc_StackAssemblerModel.1, pc_StackAssemblerModel.2.1, pd__II_V⟩, pc_StackAssemblerModel.2.2⟩
theorem vw_Md_control : qz_vw yd_Md_control := ⟨wt_1524, wp_109⟩
def yd_Md_branch : qz_Y := (⟨"StackAssemblerModel", "branch", "(IJ)V"⟩, prog_15_method_54_code, 5, (Option.none : Option Jvm.ClassFile.FieldType), 0, { frames := 2, cells := 0, slots := 0, locals := 45 })
theorem pd__IJ_V : (parseMethodDescriptor "(IJ)V").map (fun d => d.parameters.length) = some 2 := by decide +kernel
theorem mw_Md_branch : qz_mw yd_Md_branch 2 := ⟨wt_1533, wt_15, ⟨pc_StackAssemblerModel.1, pc_StackAssemblerModel.2.1, pd__IJ_V⟩, pc_StackAssemblerModel.2.2⟩
theorem vw_Md_branch : qz_vw yd_Md_branch := ⟨wt_1532, wp_111⟩
def yd_Md_callOf : qz_Y := (⟨"StackAssemblerModel", "callOf", "(J)V"⟩, prog_15_method_55_code, 5, (Option.none : Option Jvm.ClassFile.FieldType), 0, { frames := 2, cells := 0, slots := 0, locals := 45 })
theorem mw_Md_callOf : qz_mw yd_Md_callOf 1 := ⟨wt_1545, wt_15, ⟨pc_StackAssemblerModel.1, pc_StackAssemblerModel.2.1, pd__J_V⟩, pc_StackAssemblerModel.2.2⟩
theorem vw_Md_callOf : qz_vw yd_Md_callOf := ⟨wt_1544, wp_114⟩
def yd_Md_local : qz_Y := (⟨"StackAssemblerModel", "local", "(IIJ)V"⟩, prog_15_method_56_code, 6, (Option.none : Option Jvm.ClassFile.FieldType), 0, { frames := 2, cells := 0, slots := 0, locals := 45 })
theorem pd__IIJ_V : (parseMethodDescriptor "(IIJ)V").map (fun d => d.parameters.length) = some 3 := by decide +kernel
theorem mw_Md_local : qz_mw yd_Md_local 3 := ⟨wt_1553, wt_15, ⟨pc_StackAssemblerModel.1, pc_StackAssemblerModel.2.1, pd__IIJ_V⟩, pc_StackAssemblerModel.2.2⟩
theorem vw_Md_local : qz_vw yd_Md_local := ⟨wt_1552, wp_116⟩
def yd_Md_select : qz_Y := (⟨"StackAssemblerModel", "select", "()V"⟩, prog_15_method_57_code, 3, (Option.none : Option Jvm.ClassFile.FieldType), 0, { frames := 2, cells := 0, slots := 0, locals := 45 })
theorem mw_Md_select : qz_mw yd_Md_select 0 := ⟨wt_1549, wt_15, ⟨pc_StackAssemblerModel.1, pc_StackAssemblerModel.2.1, pd___V⟩, pc_StackAssemblerModel.2.2⟩
theorem vw_Md_select : qz_vw yd_Md_select := ⟨wt_1548, wp_115⟩
def yd_Md_arithmetic : qz_Y := (⟨"StackAssemblerModel", "arithmetic", "(I)V"⟩, prog_15_method_58_code, 4, (Option.none : Option Jvm.ClassFile.FieldType), 0, { frames := 2, cells := 0, slots := 0, locals := 45 })
theorem mw_Md_arithmetic : qz_mw yd_Md_arithmetic 1 := ⟨wt_1557, wt_15, ⟨pc_StackAssemblerModel.1, pc_StackAssemblerModel.2.1, pd__I_V⟩, pc_StackAssemblerModel.2.2⟩
theorem vw_Md_arithmetic : qz_vw yd_Md_arithmetic := ⟨wt_1556, wp_117⟩
def yd_Md_check : qz_Y := (⟨"StackAssemblerModel", "check", "(IIJ)V"⟩, prog_15_method_59_code, 6, (Option.none : Option Jvm.ClassFile.FieldType), 0, { frames := 4, cells := 0, slots := 0, locals := 89 })
theorem mw_Md_check : qz_mw yd_Md_check 3 := ⟨wt_1517, wt_15, ⟨pc_StackAssemblerModel.1, pc_StackAssemblerModel.2.1, pd__IIJ_V⟩, pc_StackAssemblerModel.2.2⟩
theorem vw_Md_check : qz_vw yd_Md_check := ⟨wt_1516, wp_107⟩
def yd_Md_isValid : qz_Y := (⟨"StackAssemblerModel", "isValid", "()Z"⟩, prog_15_method_60_code, 5, (Option.some Jvm.ClassFile.FieldType.boolean), 3, { frames := 5, cells := 0, slots := 0, locals := 114 })
theorem mw_Md_isValid : qz_mw yd_Md_isValid 0 := ⟨wt_1497, wt_15, ⟨pc_StackAssemblerModel.1, pc_StackAssemblerModel.2.1, pd___Z⟩, pc_StackAssemblerModel.2.2⟩
theorem vw_Md_isValid : qz_vw yd_Md_isValid := ⟨wt_1496, wp_102⟩
def yd_Md_adopt : qz_Y := (⟨"StackAssemblerModel", "adopt", "()V"⟩, prog_15_method_61_code, 2, (Option.none : Option Jvm.ClassFile.FieldType), 0, { frames := 0, cells := 0, slots := 0, locals := 0 })
theorem mw_Md_adopt : qz_mw yd_Md_adopt 0 := ⟨wt_1561, wt_15, ⟨pc_StackAssemblerModel.1, pc_StackAssemblerModel.2.1, pd___V⟩, pc_StackAssemblerModel.2.2⟩
theorem vw_Md_adopt : qz_vw yd_Md_adopt := ⟨wt_1560, wp_118⟩
def yd_Md_assemble : qz_Y := (⟨"StackAssemblerModel", "assemble", "()I"⟩, prog_15_method_62_code, 1, (Option.some Jvm.ClassFile.FieldType.int), 1, { frames := 12, cells := 0, slots := 0, locals := 270 })
theorem mw_Md_assemble : qz_mw yd_Md_assemble 0 := ⟨wt_1330, wt_15, ⟨pc_StackAssemblerModel.1, pc_StackAssemblerModel.2.1, pd___I⟩, pc_StackAssemblerModel.2.2⟩
theorem vw_Md_assemble : qz_vw yd_Md_assemble := ⟨wt_1328, wt_1329⟩
def yd_Md_add : qz_Y := (⟨"StackAssemblerModel", "add", "(I)V"⟩, prog_15_method_63_code, 2, (Option.none : Option Jvm.ClassFile.FieldType), 0, { frames := 0, cells := 0, slots := 0, locals := 0 })
theorem mw_Md_add : qz_mw yd_Md_add 1 := ⟨wt_1569, wt_15, ⟨pc_StackAssemblerModel.1, pc_StackAssemblerModel.2.1, pd__I_V⟩, pc_StackAssemblerModel.2.2⟩
theorem vw_Md_add : qz_vw yd_Md_add := ⟨wt_1568, wp_119⟩
def yd_Md_unsigned : qz_Y := (⟨"StackAssemblerModel", "unsigned", "(J)V"⟩, prog_15_method_64_code, 5, (Option.none : Option Jvm.ClassFile.FieldType), 0, { frames := 1, cells := 0, slots := 0, locals := 21 })
theorem mw_Md_unsigned : qz_mw yd_Md_unsigned 1 := ⟨wt_1589, wt_15, ⟨pc_StackAssemblerModel.1, pc_StackAssemblerModel.2.1, pd__J_V⟩, pc_StackAssemblerModel.2.2⟩
theorem vw_Md_unsigned : qz_vw yd_Md_unsigned := ⟨wt_1588, wp_124⟩
def yd_Md_signed : qz_Y := (⟨"StackAssemblerModel", "signed", "(J)V"⟩, prog_15_method_65_code, 5, (Option.none : Option Jvm.ClassFile.FieldType), 0, { frames := 1, cells := 0, slots := 0, locals := 21 })
theorem mw_Md_signed : qz_mw yd_Md_signed 1 := ⟨wt_1621, wt_15, ⟨pc_StackAssemblerModel.1, pc_StackAssemblerModel.2.1, pd__J_V⟩, pc_StackAssemblerModel.2.2⟩
theorem vw_Md_signed : qz_vw yd_Md_signed := ⟨wt_1620, wp_131⟩
def yd_Md_typeByte : qz_Y := (⟨"StackAssemblerModel", "typeByte", "(I)I"⟩, prog_15_method_66_code, 1, (Option.some Jvm.ClassFile.FieldType.int), 1, { frames := 0, cells := 0, slots := 0, locals := 0 })
theorem mw_Md_typeByte : qz_mw yd_Md_typeByte 1 := ⟨wt_1593, wt_15, ⟨pc_StackAssemblerModel.1, pc_StackAssemblerModel.2.1, pd__I_I⟩, pc_StackAssemblerModel.2.2⟩
theorem vs_Md_typeByte : Cond.static yd_Md_typeByte.1 ∈ kz_TT := wt_1592
def yd_Md_close : qz_Y := (⟨"StackAssemblerModel", "close", "(I)V"⟩, prog_15_method_67_code, 5, (Option.none : Option Jvm.ClassFile.FieldType), 0, { frames := 0, cells := 0, slots := 0, locals := 0 })
theorem mw_Md_close : qz_mw yd_Md_close 1 := ⟨wt_1597, wt_15, ⟨pc_StackAssemblerModel.1, pc_StackAssemblerModel.2.1, pd__I_V⟩, pc_StackAssemblerModel.2.2⟩
theorem vw_Md_close : qz_vw yd_Md_close := ⟨wt_1596, wp_125⟩
def yd_Md_sameSignature : qz_Y := (⟨"StackAssemblerModel", "sameSignature", "(II)Z"⟩, prog_15_method_68_code, 5, (Option.some Jvm.ClassFile.FieldType.boolean), 3, { frames := 0, cells := 0, slots := 0, locals := 0 })
theorem mw_Md_sameSignature : qz_mw yd_Md_sameSignature 2 := ⟨wt_1585, wt_15, ⟨pc_StackAssemblerModel.1, pc_StackAssemblerModel.2.1, pd__II_Z⟩, pc_StackAssemblerModel.2.2⟩
theorem vw_Md_sameSignature : qz_vw yd_Md_sameSignature := ⟨wt_1584, wp_123⟩
def yd_Md_firstLike : qz_Y := (⟨"StackAssemblerModel", "firstLike", "(I)I"⟩, prog_15_method_69_code, 3, (Option.some Jvm.ClassFile.FieldType.int), 1, { frames := 1, cells := 0, slots := 0, locals := 24 })
theorem mw_Md_firstLike : qz_mw yd_Md_firstLike 1 := ⟨wt_1581, wt_15, ⟨pc_StackAssemblerModel.1, pc_StackAssemblerModel.2.1, pd__I_I⟩, pc_StackAssemblerModel.2.2⟩
theorem vw_Md_firstLike : qz_vw yd_Md_firstLike := ⟨wt_1580, wp_122⟩
def yd_Md_signaturesBefore : qz_Y := (⟨"StackAssemblerModel", "signaturesBefore", "(I)I"⟩, prog_15_method_70_code, 4, (Option.some Jvm.ClassFile.FieldType.int), 1, { frames := 2, cells := 0, slots := 0, locals := 46 })
theorem mw_Md_signaturesBefore : qz_mw yd_Md_signaturesBefore 1 := ⟨wt_1577, wt_15, ⟨pc_StackAssemblerModel.1, pc_StackAssemblerModel.2.1, pd__I_I⟩, pc_StackAssemblerModel.2.2⟩
theorem vw_Md_signaturesBefore : qz_vw yd_Md_signaturesBefore := ⟨wt_1576, wp_121⟩
def yd_Md_signatureSection : qz_Y := (⟨"StackAssemblerModel", "signatureSection", "()V"⟩, prog_15_method_71_code, 4, (Option.none : Option Jvm.ClassFile.FieldType), 0, { frames := 3, cells := 0, slots := 0, locals := 69 })
theorem mw_Md_signatureSection : qz_mw yd_Md_signatureSection 0 := ⟨wt_1573, wt_15, ⟨pc_StackAssemblerModel.1, pc_StackAssemblerModel.2.1, pd___V⟩, pc_StackAssemblerModel.2.2⟩
theorem vw_Md_signatureSection : qz_vw yd_Md_signatureSection := ⟨wt_1572, wp_120⟩
def yd_Md_functionSection : qz_Y := (⟨"StackAssemblerModel", "functionSection", "()V"⟩, prog_15_method_72_code, 3, (Option.none : Option Jvm.ClassFile.FieldType), 0, { frames := 3, cells := 0, slots := 0, locals := 69 })
theorem mw_Md_functionSection : qz_mw yd_Md_functionSection 0 := ⟨wt_1601, wt_15, ⟨pc_StackAssemblerModel.1, pc_StackAssemblerModel.2.1, pd___V⟩, pc_StackAssemblerModel.2.2⟩
theorem vw_Md_functionSection : qz_vw yd_Md_functionSection := ⟨wt_1600, wp_126⟩
def yd_Md_runBegins : qz_Y := (⟨"StackAssemblerModel", "runBegins", "(II)Z"⟩, prog_15_method_73_code, 3, (Option.some Jvm.ClassFile.FieldType.boolean), 3, { frames := 0, cells := 0, slots := 0, locals := 0 })
theorem mw_Md_runBegins : qz_mw yd_Md_runBegins 2 := ⟨wt_1613, wt_15, ⟨pc_StackAssemblerModel.1, pc_StackAssemblerModel.2.1, pd__II_Z⟩, pc_StackAssemblerModel.2.2⟩
theorem vw_Md_runBegins : qz_vw yd_Md_runBegins := ⟨wt_1612, wp_129⟩
def yd_Md_runs : qz_Y := (⟨"StackAssemblerModel", "runs", "(I)V"⟩, prog_15_method_74_code, 5, (Option.none : Option Jvm.ClassFile.FieldType), 0, { frames := 2, cells := 0, slots := 0, locals := 45 })
theorem mw_Md_runs : qz_mw yd_Md_runs 1 := ⟨wt_1609, wt_15, ⟨pc_StackAssemblerModel.1, pc_StackAssemblerModel.2.1, pd__I_V⟩, pc_StackAssemblerModel.2.2⟩
theorem vw_Md_runs : qz_vw yd_Md_runs := ⟨wt_1608, wp_128⟩
def yd_Md_instructionBytes : qz_Y := (⟨"StackAssemblerModel", "instructionBytes", "(I)V"⟩, prog_15_method_75_code, 3, (Option.none : Option Jvm.ClassFile.FieldType), 0, { frames := 2, cells := 0, slots := 0, locals := 45 })
theorem mw_Md_instructionBytes : qz_mw yd_Md_instructionBytes 1 := ⟨wt_1617, wt_15, ⟨pc_StackAssemblerModel.1, pc_StackAssemblerModel.2.1, pd__I_V⟩, pc_StackAssemblerModel.2.2⟩
theorem vw_Md_instructionBytes : qz_vw yd_Md_instructionBytes := ⟨wt_1616, wp_130⟩
def yd_Md_codeSection : qz_Y := (⟨"StackAssemblerModel", "codeSection", "()V"⟩, prog_15_method_76_code, 5, (Option.none : Option Jvm.ClassFile.FieldType), 0, { frames := 3, cells := 0, slots := 0, locals := 69 })
theorem mw_Md_codeSection : qz_mw yd_Md_codeSection 0 := ⟨wt_1605, wt_15, ⟨pc_StackAssemblerModel.1, pc_StackAssemblerModel.2.1, pd___V⟩, pc_StackAssemblerModel.2.2⟩
theorem vw_Md_codeSection : qz_vw yd_Md_codeSection := ⟨wt_1604, wp_127⟩
def yd_Md_encode : qz_Y := (⟨"StackAssemblerModel", "encode", "()I"⟩, prog_15_method_77_code, 2, (Option.some Jvm.ClassFile.FieldType.int), 1, { frames := 4, cells := 0, slots := 0, locals := 93 })
theorem mw_Md_encode : qz_mw yd_Md_encode 0 := ⟨wt_1565, wt_15, ⟨pc_StackAssemblerModel.1, pc_StackAssemblerModel.2.1, pd___I⟩, pc_StackAssemblerModel.2.2⟩
theorem vw_Md_encode : qz_vw yd_Md_encode := ⟨wt_1563, wt_1564⟩
def yd_Md_octet : qz_Y := (⟨"StackAssemblerModel", "octet", "(I)I"⟩, prog_15_method_78_code, 2, (Option.some Jvm.ClassFile.FieldType.int), 1, { frames := 0, cells := 0, slots := 0, locals := 0 })
theorem mw_Md_octet : qz_mw yd_Md_octet 1 := ⟨wt_1627, wt_15, ⟨pc_StackAssemblerModel.1, pc_StackAssemblerModel.2.1, pd__I_I⟩, pc_StackAssemblerModel.2.2⟩
theorem vw_Md_octet : qz_vw yd_Md_octet := ⟨wt_1625, wt_1626⟩
def yd_Md_out : qz_Y := (⟨"StackAssemblerModel", "out", "(I)V"⟩, prog_15_method_79_code, 2, (Option.none : Option Jvm.ClassFile.FieldType), 0, { frames := 0, cells := 0, slots := 0, locals := 0 })
theorem mw_Md_out : qz_mw yd_Md_out 1 := ⟨wt_1635, wt_15, ⟨pc_StackAssemblerModel.1, pc_StackAssemblerModel.2.1, pd__I_V⟩, pc_StackAssemblerModel.2.2⟩
theorem vw_Md_out : qz_vw yd_Md_out := ⟨wt_1634, wp_132⟩
def yd_Md_outLong : qz_Y := (⟨"StackAssemblerModel", "outLong", "(J)V"⟩, prog_15_method_80_code, 5, (Option.none : Option Jvm.ClassFile.FieldType), 0, { frames := 1, cells := 0, slots := 0, locals := 21 })
theorem mw_Md_outLong : qz_mw yd_Md_outLong 1 := ⟨wt_1639, wt_15, ⟨pc_StackAssemblerModel.1, pc_StackAssemblerModel.2.1, pd__J_V⟩, pc_StackAssemblerModel.2.2⟩
theorem vw_Md_outLong : qz_vw yd_Md_outLong := ⟨wt_1638, wp_133⟩
def yd_Md_outNumber : qz_Y := (⟨"StackAssemblerModel", "outNumber", "(J)V"⟩, prog_15_method_81_code, 9, (Option.none : Option Jvm.ClassFile.FieldType), 0, { frames := 1, cells := 0, slots := 0, locals := 21 })
theorem mw_Md_outNumber : qz_mw yd_Md_outNumber 1 := ⟨wt_1659, wt_15, ⟨pc_StackAssemblerModel.1, pc_StackAssemblerModel.2.1, pd__J_V⟩, pc_StackAssemblerModel.2.2⟩
theorem vw_Md_outNumber : qz_vw yd_Md_outNumber := ⟨wt_1658, wp_138⟩
def yd_Md_outType : qz_Y := (⟨"StackAssemblerModel", "outType", "(I)V"⟩, prog_15_method_82_code, 2, (Option.none : Option Jvm.ClassFile.FieldType), 0, { frames := 2, cells := 0, slots := 0, locals := 45 })
theorem mw_Md_outType : qz_mw yd_Md_outType 1 := ⟨wt_1647, wt_15, ⟨pc_StackAssemblerModel.1, pc_StackAssemblerModel.2.1, pd__I_V⟩, pc_StackAssemblerModel.2.2⟩
theorem vw_Md_outType : qz_vw yd_Md_outType := ⟨wt_1646, wp_135⟩
def yd_Md_outRow : qz_Y := (⟨"StackAssemblerModel", "outRow", "(JIII)V"⟩, prog_15_method_83_code, 7, (Option.none : Option Jvm.ClassFile.FieldType), 0, { frames := 3, cells := 0, slots := 0, locals := 66 })
theorem pd__JIII_V : (parseMethodDescriptor "(JIII)V").map (fun d => d.parameters.length) = some 4 := by decide +kernel
theorem mw_Md_outRow : qz_mw yd_Md_outRow 4 := ⟨wt_1643, wt_15, ⟨pc_StackAssemblerModel.1, pc_StackAssemblerModel.2.1, pd__JIII_V⟩, pc_StackAssemblerModel.2.2⟩
theorem vw_Md_outRow : qz_vw yd_Md_outRow := ⟨wt_1642, wp_134⟩
def yd_Md_outResult : qz_Y := (⟨"StackAssemblerModel", "outResult", "(I)V"⟩, prog_15_method_85_code, 2, (Option.none : Option Jvm.ClassFile.FieldType), 0, { frames := 3, cells := 0, slots := 0, locals := 66 })
theorem mw_Md_outResult : qz_mw yd_Md_outResult 1 := ⟨wt_1651, wt_15, ⟨pc_StackAssemblerModel.1, pc_StackAssemblerModel.2.1, pd__I_V⟩, pc_StackAssemblerModel.2.2⟩
theorem vw_Md_outResult : qz_vw yd_Md_outResult := ⟨wt_1650, wp_136⟩
def yd_Md_outInstruction : qz_Y := (⟨"StackAssemblerModel", "outInstruction", "(I)V"⟩, prog_15_method_84_code, 5, (Option.none : Option Jvm.ClassFile.FieldType), 0, { frames := 4, cells := 0, slots := 0, locals := 87 })
theorem mw_Md_outInstruction : qz_mw yd_Md_outInstruction 1 := ⟨wt_1655, wt_15, ⟨pc_StackAssemblerModel.1, pc_StackAssemblerModel.2.1, pd__I_V⟩, pc_StackAssemblerModel.2.2⟩
theorem vw_Md_outInstruction : qz_vw yd_Md_outInstruction := ⟨wt_1654, wp_137⟩
def yd_Md_print : qz_Y := (⟨"StackAssemblerModel", "print", "()I"⟩, prog_15_method_86_code, 3, (Option.some Jvm.ClassFile.FieldType.int), 1, { frames := 5, cells := 0, slots := 0, locals := 111 })
theorem mw_Md_print : qz_mw yd_Md_print 0 := ⟨wt_1631, wt_15, ⟨pc_StackAssemblerModel.1, pc_StackAssemblerModel.2.1, pd___I⟩, pc_StackAssemblerModel.2.2⟩
theorem vw_Md_print : qz_vw yd_Md_print := ⟨wt_1629, wt_1630⟩
def yd_Md_place : qz_Y := (⟨"StackAssemblerModel", "place", "()I"⟩, prog_15_method_87_code, 1, (Option.some Jvm.ClassFile.FieldType.int), 1, { frames := 0, cells := 0, slots := 0, locals := 0 })
theorem mw_Md_place : qz_mw yd_Md_place 0 := ⟨wt_1665, wt_15, ⟨pc_StackAssemblerModel.1, pc_StackAssemblerModel.2.1, pd___I⟩, pc_StackAssemblerModel.2.2⟩
theorem vw_Md_place : qz_vw yd_Md_place := ⟨wt_1663, wt_1664⟩
def yd_Md_functions : qz_Y := (⟨"StackAssemblerModel", "functions", "()I"⟩, prog_15_method_88_code, 1, (Option.some Jvm.ClassFile.FieldType.int), 1, { frames := 0, cells := 0, slots := 0, locals := 0 })
theorem mw_Md_functions : qz_mw yd_Md_functions 0 := ⟨wt_1669, wt_15, ⟨pc_StackAssemblerModel.1, pc_StackAssemblerModel.2.1, pd___I⟩, pc_StackAssemblerModel.2.2⟩
theorem vw_Md_functions : qz_vw yd_Md_functions := ⟨wt_1667, wt_1668⟩
def yd_Md_isFunction : qz_Y := (⟨"StackAssemblerModel", "isFunction", "(I)Z"⟩, prog_15_method_89_code, 2, (Option.some Jvm.ClassFile.FieldType.boolean), 3, { frames := 0, cells := 0, slots := 0, locals := 0 })
theorem mw_Md_isFunction : qz_mw yd_Md_isFunction 1 := ⟨wt_1677, wt_15, ⟨pc_StackAssemblerModel.1, pc_StackAssemblerModel.2.1, pd__I_Z⟩, pc_StackAssemblerModel.2.2⟩
theorem vw_Md_isFunction : qz_vw yd_Md_isFunction := ⟨wt_1676, wp_139⟩
def yd_Md_function : qz_Y := (⟨"StackAssemblerModel", "function", "(II)I"⟩, prog_15_method_90_code, 3, (Option.some Jvm.ClassFile.FieldType.int), 1, { frames := 1, cells := 0, slots := 0, locals := 21 })
theorem mw_Md_function : qz_mw yd_Md_function 2 := ⟨wt_1673, wt_15, ⟨pc_StackAssemblerModel.1, pc_StackAssemblerModel.2.1, pd__II_I⟩, pc_StackAssemblerModel.2.2⟩
theorem vw_Md_function : qz_vw yd_Md_function := ⟨wt_1671, wt_1672⟩
def yd_Md_isInstruction : qz_Y := (⟨"StackAssemblerModel", "isInstruction", "(II)Z"⟩, prog_15_method_91_code, 3, (Option.some Jvm.ClassFile.FieldType.boolean), 3, { frames := 1, cells := 0, slots := 0, locals := 21 })
theorem mw_Md_isInstruction : qz_mw yd_Md_isInstruction 2 := ⟨wt_1685, wt_15, ⟨pc_StackAssemblerModel.1, pc_StackAssemblerModel.2.1, pd__II_Z⟩, pc_StackAssemblerModel.2.2⟩
theorem vw_Md_isInstruction : qz_vw yd_Md_isInstruction := ⟨wt_1684, wp_140⟩
def yd_Md_instruction : qz_Y := (⟨"StackAssemblerModel", "instruction", "(II)I"⟩, prog_15_method_92_code, 3, (Option.some Jvm.ClassFile.FieldType.int), 1, { frames := 2, cells := 0, slots := 0, locals := 43 })
theorem mw_Md_instruction : qz_mw yd_Md_instruction 2 := ⟨wt_1681, wt_15, ⟨pc_StackAssemblerModel.1, pc_StackAssemblerModel.2.1, pd__II_I⟩, pc_StackAssemblerModel.2.2⟩
theorem vw_Md_instruction : qz_vw yd_Md_instruction := ⟨wt_1679, wt_1680⟩
def yd_Md_immediate : qz_Y := (⟨"StackAssemblerModel", "immediate", "(II)J"⟩, prog_15_method_93_code, 3, (Option.some Jvm.ClassFile.FieldType.long), 2, { frames := 2, cells := 0, slots := 0, locals := 43 })
theorem mw_Md_immediate : qz_mw yd_Md_immediate 2 := ⟨wt_1689, wt_15, ⟨pc_StackAssemblerModel.1, pc_StackAssemblerModel.2.1, pd__II_J⟩, pc_StackAssemblerModel.2.2⟩
theorem vw_Md_immediate : qz_vw yd_Md_immediate := ⟨wt_1687, wt_1688⟩
def yd_SA_assembleT : qz_Y := (⟨"StackAssembler", "assemble", "()I"⟩, prog_1_method_5_code, 3, (Option.some Jvm.ClassFile.FieldType.int), 99, { frames := 9, cells := 1, slots := 6, locals := 197 })
theorem mw_SA_assembleT : qz_mw yd_SA_assembleT 0 := ⟨wt_525, wt_1, ⟨pc_StackAssembler.1, pc_StackAssembler.2.1, pd___I⟩, pc_StackAssembler.2.2⟩
theorem vw_SA_assembleT : qz_vw yd_SA_assembleT := ⟨wt_523, wt_524⟩
def yd_SA_printT : qz_Y := (⟨"StackAssembler", "print", "()I"⟩, prog_1_method_8_code, 2, (Option.some Jvm.ClassFile.FieldType.int), 99, { frames := 10, cells := 1, slots := 6, locals := 218 })
theorem mw_SA_printT : qz_mw yd_SA_printT 0 := ⟨wt_1024, wt_1, ⟨pc_StackAssembler.1, pc_StackAssembler.2.1, pd___I⟩, pc_StackAssembler.2.2⟩
theorem vw_SA_printT : qz_vw yd_SA_printT := ⟨wt_1022, wt_1023⟩
theorem wa_char : Cond.arrayClass (newarray.typeOf .char) ∈ kz_TT := wt_52
theorem fl_Text_9 : qz_fl "StackAssembler$Text" 9 11 0 := ⟨_, rfl, by decide, Or.inl wt_42⟩
theorem oi_Text_3 : Cond.methodLink "StackAssembler$Text" 3 Lib.objectInit ∈ kz_TT ∧ Cond.instanceMethod Lib.objectInit ∈ kz_TT ∧ Cond.code Lib.objectInit ⟨#[0xb1]⟩ 1 none ∈ kz_TT := ⟨wt_41, wt_34, wt_35⟩
theorem fp_Text_9_Text_init : qz_fp yd_Text_init 9 11 0 := ⟨_, rfl, by decide, Or.inr ⟨rfl, rfl, rfl, wt_42⟩⟩
theorem wa_int : Cond.arrayClass (newarray.typeOf .int) ∈ kz_TT := wt_114
theorem fl_Function_9 : qz_fl "StackAssembler$Function" 9 4 0 := ⟨_, rfl, by decide, Or.inl wt_68⟩
theorem oi_Function_3 : Cond.methodLink "StackAssembler$Function" 3 Lib.objectInit ∈ kz_TT ∧ Cond.instanceMethod Lib.objectInit ∈ kz_TT ∧ Cond.code Lib.objectInit ⟨#[0xb1]⟩ 1 none ∈ kz_TT := ⟨wt_67, wt_34, wt_35⟩
theorem fp_Function_9_Function_init : qz_fp yd_Function_init 9 4 0 := ⟨_, rfl, by decide, Or.inr ⟨rfl, rfl, rfl, wt_68⟩⟩
theorem an_Module_17 : Cond.classLink "StackAssembler$Module" 17 "StackAssembler$Op" ∈ kz_TT ∧ "StackAssembler$Op" ∈ kz_ao := ⟨wt_61, List.mem_of_getElem? (i := 1) rfl⟩
theorem an_Module_9 : Cond.classLink "StackAssembler$Module" 9 "StackAssembler$Function" ∈ kz_TT ∧ "StackAssembler$Function" ∈ kz_ao := ⟨wt_59, List.mem_of_getElem? (i := 0) rfl⟩
theorem wa_long : Cond.arrayClass (newarray.typeOf .long) ∈ kz_TT := wt_113
theorem ln_Module_27 : qz_ln "StackAssembler$Module" 27 yd_Function_init := Or.inr ⟨_, wn_64⟩
theorem fl_Module_11 : qz_fl "StackAssembler$Module" 11 6 0 := ⟨_, rfl, by decide, Or.inl wt_117⟩
theorem fl_Module_19 : qz_fl "StackAssembler$Module" 19 6 1 := ⟨_, rfl, by decide, Or.inl wt_122⟩
theorem fl_Module_23 : qz_fl "StackAssembler$Module" 23 6 2 := ⟨_, rfl, by decide, Or.inl wt_128⟩
theorem nw_Module_9 : ∃ q : vw_C, kz_cl[4]? = some q ∧ Cond.classLink "StackAssembler$Module" 9 q.1 ∈ kz_TT ∧ Cond.instantiable q.1 (kz_N 4) ∈ kz_TT ∧ Cond.initialized q.1 ∈ kz_TT := ⟨_, rfl, wt_59, wt_63, wt_4⟩
theorem oi_Module_3 : Cond.methodLink "StackAssembler$Module" 3 Lib.objectInit ∈ kz_TT ∧ Cond.instanceMethod Lib.objectInit ∈ kz_TT ∧ Cond.code Lib.objectInit ⟨#[0xb1]⟩ 1 none ∈ kz_TT := ⟨wt_58, wt_34, wt_35⟩
theorem fp_Module_11_Module_init : qz_fp yd_Module_init 11 6 0 := ⟨_, rfl, by decide, Or.inr ⟨rfl, rfl, rfl, wt_117⟩⟩
theorem fp_Module_19_Module_init : qz_fp yd_Module_init 19 6 1 := ⟨_, rfl, by decide, Or.inr ⟨rfl, rfl, rfl, wt_122⟩⟩
theorem fp_Module_23_Module_init : qz_fp yd_Module_init 23 6 2 := ⟨_, rfl, by decide, Or.inr ⟨rfl, rfl, rfl, wt_128⟩⟩
theorem sz_Op_NOP : ("StackAssembler$Op", "NOP", "LStackAssembler$Op;", 17, ((-2) : Int)) ∈ kz_st := List.mem_of_getElem? (i := 1) rfl
theorem sl_Module_28 : Cond.fieldLink "StackAssembler$Module" 28 "StackAssembler$Op" "NOP" "LStackAssembler$Op;" ∈ kz_TT ∨ ∃ host, Cond.fieldLinkNest "StackAssembler$Module" 28 "StackAssembler$Op" "NOP" "LStackAssembler$Op;" host ∈ kz_NT := Or.inl wt_115
theorem fl_Scanner_9 : qz_fl "StackAssembler$Scanner" 9 10 0 := ⟨_, rfl, by decide, Or.inl wt_167⟩
theorem oi_Scanner_3 : Cond.methodLink "StackAssembler$Scanner" 3 Lib.objectInit ∈ kz_TT ∧ Cond.instanceMethod Lib.objectInit ∈ kz_TT ∧ Cond.code Lib.objectInit ⟨#[0xb1]⟩ 1 none ∈ kz_TT := ⟨wt_166, wt_34, wt_35⟩
theorem fp_Scanner_9_Scanner_init : qz_fp yd_Scanner_init 9 10 0 := ⟨_, rfl, by decide, Or.inl ⟨rfl, Or.inl wt_167⟩⟩
theorem fl_Level_13 : qz_fl "StackAssembler$Level" 13 5 3 := ⟨_, rfl, by decide, Or.inl wt_202⟩
theorem oi_Level_1 : Cond.methodLink "StackAssembler$Level" 1 Lib.objectInit ∈ kz_TT ∧ Cond.instanceMethod Lib.objectInit ∈ kz_TT ∧ Cond.code Lib.objectInit ⟨#[0xb1]⟩ 1 none ∈ kz_TT := ⟨wt_194, wt_34, wt_35⟩
theorem fp_Level_13_Level_init : qz_fp yd_Level_init 13 5 3 := ⟨_, rfl, by decide, Or.inl ⟨rfl, Or.inl wt_202⟩⟩
theorem sl_Level_7 : Cond.fieldLink "StackAssembler$Level" 7 "StackAssembler$Op" "NOP" "LStackAssembler$Op;" ∈ kz_TT ∨ ∃ host, Cond.fieldLinkNest "StackAssembler$Level" 7 "StackAssembler$Op" "NOP" "LStackAssembler$Op;" host ∈ kz_NT := Or.inl wt_195
theorem an_Reader_9 : Cond.classLink "StackAssembler$Reader" 9 "StackAssembler$Level" ∈ kz_TT ∧ "StackAssembler$Level" ∈ kz_ao := ⟨wt_159, List.mem_of_getElem? (i := 2) rfl⟩
theorem ln_Reader_30 : qz_ln "StackAssembler$Reader" 30 yd_Scanner_init := Or.inl wt_163
theorem ln_Reader_37 : qz_ln "StackAssembler$Reader" 37 yd_Level_init := Or.inr ⟨_, wn_191⟩
theorem fl_Reader_11 : qz_fl "StackAssembler$Reader" 11 9 1 := ⟨_, rfl, by decide, Or.inl wt_218⟩
theorem fl_Reader_17 : qz_fl "StackAssembler$Reader" 17 9 2 := ⟨_, rfl, by decide, Or.inl wt_219⟩
theorem fl_Reader_21 : qz_fl "StackAssembler$Reader" 21 9 3 := ⟨_, rfl, by decide, Or.inl wt_220⟩
theorem fl_Reader_24 : qz_fl "StackAssembler$Reader" 24 9 4 := ⟨_, rfl, by decide, Or.inl wt_221⟩
theorem fl_Reader_33 : qz_fl "StackAssembler$Reader" 33 9 0 := ⟨_, rfl, by decide, Or.inl wt_217⟩
theorem nw_Reader_28 : ∃ q : vw_C, kz_cl[10]? = some q ∧ Cond.classLink "StackAssembler$Reader" 28 q.1 ∈ kz_TT ∧ Cond.instantiable q.1 (kz_N 10) ∈ kz_TT ∧ Cond.initialized q.1 ∈ kz_TT := ⟨_, rfl, wt_161, wt_162, wt_8⟩
theorem nw_Reader_9 : ∃ q : vw_C, kz_cl[5]? = some q ∧ Cond.classLink "StackAssembler$Reader" 9 q.1 ∈ kz_TT ∧ Cond.instantiable q.1 (kz_N 5) ∈ kz_TT ∧ Cond.initialized q.1 ∈ kz_TT := ⟨_, rfl, wt_159, wt_190, wt_9⟩
theorem oi_Reader_3 : Cond.methodLink "StackAssembler$Reader" 3 Lib.objectInit ∈ kz_TT ∧ Cond.instanceMethod Lib.objectInit ∈ kz_TT ∧ Cond.code Lib.objectInit ⟨#[0xb1]⟩ 1 none ∈ kz_TT := ⟨wt_158, wt_34, wt_35⟩
theorem fp_Reader_11_Reader_init : qz_fp yd_Reader_init 11 9 1 := ⟨_, rfl, by decide, Or.inr ⟨rfl, rfl, rfl, wt_218⟩⟩
theorem fp_Reader_17_Reader_init : qz_fp yd_Reader_init 17 9 2 := ⟨_, rfl, by decide, Or.inr ⟨rfl, rfl, rfl, wt_219⟩⟩
theorem fp_Reader_21_Reader_init : qz_fp yd_Reader_init 21 9 3 := ⟨_, rfl, by decide, Or.inr ⟨rfl, rfl, rfl, wt_220⟩⟩
theorem fp_Reader_24_Reader_init : qz_fp yd_Reader_init 24 9 4 := ⟨_, rfl, by decide, Or.inl ⟨rfl, Or.inl wt_221⟩⟩
theorem fp_Reader_33_Reader_init : qz_fp yd_Reader_init 33 9 0 := ⟨_, rfl, by decide, Or.inr ⟨rfl, rfl, rfl, wt_217⟩⟩
theorem fl_Module_32 : qz_fl "StackAssembler$Module" 32 6 3 := ⟨_, rfl, by decide, Or.inl wt_134⟩
theorem ma_Module_51 : Cond.methodLink "StackAssembler$Module" 51 Lib.Math.min.name ∈ kz_TT ∧ Cond.static Lib.Math.min.name ∈ kz_TT ∧ Cond.initialized "java/lang/Math" ∈ kz_TT ∧ Cond.code Lib.Math.min.name Lib.Math.min.code 2 (some .int) ∈ kz_TT := ⟨wt_261, wt_262, wt_11, wt_263⟩
theorem ma_Module_57 : Cond.methodLink "StackAssembler$Module" 57 Lib.Math.max.name ∈ kz_TT ∧ Cond.static Lib.Math.max.name ∈ kz_TT ∧ Cond.initialized "java/lang/Math" ∈ kz_TT ∧ Cond.code Lib.Math.max.name Lib.Math.max.code 2 (some .int) ∈ kz_TT := ⟨wt_264, wt_265, wt_11, wt_266⟩
theorem oi_Frame_1 : Cond.methodLink "StackAssembler$Frame" 1 Lib.objectInit ∈ kz_TT ∧ Cond.instanceMethod Lib.objectInit ∈ kz_TT ∧ Cond.code Lib.objectInit ⟨#[0xb1]⟩ 1 none ∈ kz_TT := ⟨wt_271, wt_34, wt_35⟩
theorem an_Checker_15 : Cond.classLink "StackAssembler$Checker" 15 "StackAssembler$Frame" ∈ kz_TT ∧ "StackAssembler$Frame" ∈ kz_ao := ⟨wt_255, List.mem_of_getElem? (i := 3) rfl⟩
theorem ln_Checker_35 : qz_ln "StackAssembler$Checker" 35 yd_Frame_init := Or.inr ⟨_, wn_268⟩
theorem ln_Checker_25 : qz_ln "StackAssembler$Checker" 25 yd_Module_latest := Or.inl wt_257
theorem fl_Checker_17 : qz_fl "StackAssembler$Checker" 17 1 1 := ⟨_, rfl, by decide, Or.inl wt_294⟩
theorem fl_Checker_21 : qz_fl "StackAssembler$Checker" 21 1 2 := ⟨_, rfl, by decide, Or.inl wt_295⟩
theorem fl_Checker_31 : qz_fl "StackAssembler$Checker" 31 1 3 := ⟨_, rfl, by decide, Or.inl wt_296⟩
theorem fl_Checker_9 : qz_fl "StackAssembler$Checker" 9 1 0 := ⟨_, rfl, by decide, Or.inl wt_293⟩
theorem nw_Checker_15 : ∃ q : vw_C, kz_cl[3]? = some q ∧ Cond.classLink "StackAssembler$Checker" 15 q.1 ∈ kz_TT ∧ Cond.instantiable q.1 (kz_N 3) ∈ kz_TT ∧ Cond.initialized q.1 ∈ kz_TT := ⟨_, rfl, wt_255, wt_267, wt_12⟩
theorem oi_Checker_3 : Cond.methodLink "StackAssembler$Checker" 3 Lib.objectInit ∈ kz_TT ∧ Cond.instanceMethod Lib.objectInit ∈ kz_TT ∧ Cond.code Lib.objectInit ⟨#[0xb1]⟩ 1 none ∈ kz_TT := ⟨wt_254, wt_34, wt_35⟩
theorem fp_Checker_17_Checker_init : qz_fp yd_Checker_init 17 1 1 := ⟨_, rfl, by decide, Or.inr ⟨rfl, rfl, rfl, wt_294⟩⟩
theorem fp_Checker_21_Checker_init : qz_fp yd_Checker_init 21 1 2 := ⟨_, rfl, by decide, Or.inl ⟨rfl, Or.inl wt_295⟩⟩
theorem fp_Checker_31_Checker_init : qz_fp yd_Checker_init 31 1 3 := ⟨_, rfl, by decide, Or.inl ⟨rfl, Or.inl wt_296⟩⟩
theorem fp_Checker_9_Checker_init : qz_fp yd_Checker_init 9 1 0 := ⟨_, rfl, by decide, Or.inr ⟨rfl, rfl, rfl, wt_293⟩⟩
theorem wa_byte : Cond.arrayClass (newarray.typeOf .byte) ∈ kz_TT := wt_336
theorem fl_Encoder_11 : qz_fl "StackAssembler$Encoder" 11 2 0 := ⟨_, rfl, by decide, Or.inl wt_325⟩
theorem fl_Encoder_15 : qz_fl "StackAssembler$Encoder" 15 2 1 := ⟨_, rfl, by decide, Or.inl wt_326⟩
theorem oi_Encoder_3 : Cond.methodLink "StackAssembler$Encoder" 3 Lib.objectInit ∈ kz_TT ∧ Cond.instanceMethod Lib.objectInit ∈ kz_TT ∧ Cond.code Lib.objectInit ⟨#[0xb1]⟩ 1 none ∈ kz_TT := ⟨wt_324, wt_34, wt_35⟩
theorem fp_Encoder_11_Encoder_init : qz_fp yd_Encoder_init 11 2 0 := ⟨_, rfl, by decide, Or.inr ⟨rfl, rfl, rfl, wt_325⟩⟩
theorem fp_Encoder_15_Encoder_init : qz_fp yd_Encoder_init 15 2 1 := ⟨_, rfl, by decide, Or.inr ⟨rfl, rfl, rfl, wt_326⟩⟩
theorem fl_Printer_9 : qz_fl "StackAssembler$Printer" 9 8 0 := ⟨_, rfl, by decide, Or.inl wt_343⟩
theorem oi_Printer_3 : Cond.methodLink "StackAssembler$Printer" 3 Lib.objectInit ∈ kz_TT ∧ Cond.instanceMethod Lib.objectInit ∈ kz_TT ∧ Cond.code Lib.objectInit ⟨#[0xb1]⟩ 1 none ∈ kz_TT := ⟨wt_342, wt_34, wt_35⟩
theorem fp_Printer_9_Printer_init : qz_fp yd_Printer_init 9 8 0 := ⟨_, rfl, by decide, Or.inl ⟨rfl, Or.inl wt_343⟩⟩
theorem ln_SA_21 : qz_ln "StackAssembler" 21 yd_Module_init := Or.inl wt_55
theorem ln_SA_31 : qz_ln "StackAssembler" 31 yd_Reader_init := Or.inl wt_155
theorem ln_SA_40 : qz_ln "StackAssembler" 40 yd_Checker_init := Or.inl wt_251
theorem ln_SA_49 : qz_ln "StackAssembler" 49 yd_Encoder_init := Or.inr ⟨_, wn_321⟩
theorem ln_SA_56 : qz_ln "StackAssembler" 56 yd_Printer_init := Or.inl wt_339
theorem ln_SA_9 : qz_ln "StackAssembler" 9 yd_Text_init := Or.inr ⟨_, wn_38⟩
theorem fl_SA_10 : qz_fl "StackAssembler" 10 0 4 := ⟨_, rfl, by decide, Or.inl wt_351⟩
theorem fl_SA_16 : qz_fl "StackAssembler" 16 0 5 := ⟨_, rfl, by decide, Or.inl wt_352⟩
theorem fl_SA_22 : qz_fl "StackAssembler" 22 0 6 := ⟨_, rfl, by decide, Or.inl wt_353⟩
theorem fl_SA_26 : qz_fl "StackAssembler" 26 0 7 := ⟨_, rfl, by decide, Or.inl wt_354⟩
theorem fl_SA_34 : qz_fl "StackAssembler" 34 0 0 := ⟨_, rfl, by decide, Or.inl wt_347⟩
theorem fl_SA_43 : qz_fl "StackAssembler" 43 0 1 := ⟨_, rfl, by decide, Or.inl wt_348⟩
theorem fl_SA_50 : qz_fl "StackAssembler" 50 0 2 := ⟨_, rfl, by decide, Or.inl wt_349⟩
theorem fl_SA_59 : qz_fl "StackAssembler" 59 0 3 := ⟨_, rfl, by decide, Or.inl wt_350⟩
theorem nw_SA_19 : ∃ q : vw_C, kz_cl[6]? = some q ∧ Cond.classLink "StackAssembler" 19 q.1 ∈ kz_TT ∧ Cond.instantiable q.1 (kz_N 6) ∈ kz_TT ∧ Cond.initialized q.1 ∈ kz_TT := ⟨_, rfl, wt_53, wt_54, wt_3⟩
theorem nw_SA_29 : ∃ q : vw_C, kz_cl[9]? = some q ∧ Cond.classLink "StackAssembler" 29 q.1 ∈ kz_TT ∧ Cond.instantiable q.1 (kz_N 9) ∈ kz_TT ∧ Cond.initialized q.1 ∈ kz_TT := ⟨_, rfl, wt_153, wt_154, wt_7⟩
theorem nw_SA_38 : ∃ q : vw_C, kz_cl[1]? = some q ∧ Cond.classLink "StackAssembler" 38 q.1 ∈ kz_TT ∧ Cond.instantiable q.1 (kz_N 1) ∈ kz_TT ∧ Cond.initialized q.1 ∈ kz_TT := ⟨_, rfl, wt_249, wt_250, wt_10⟩
theorem nw_SA_47 : ∃ q : vw_C, kz_cl[2]? = some q ∧ Cond.classLink "StackAssembler" 47 q.1 ∈ kz_TT ∧ Cond.instantiable q.1 (kz_N 2) ∈ kz_TT ∧ Cond.initialized q.1 ∈ kz_TT := ⟨_, rfl, wt_319, wt_320, wt_13⟩
theorem nw_SA_54 : ∃ q : vw_C, kz_cl[8]? = some q ∧ Cond.classLink "StackAssembler" 54 q.1 ∈ kz_TT ∧ Cond.instantiable q.1 (kz_N 8) ∈ kz_TT ∧ Cond.initialized q.1 ∈ kz_TT := ⟨_, rfl, wt_337, wt_338, wt_14⟩
theorem nw_SA_7 : ∃ q : vw_C, kz_cl[11]? = some q ∧ Cond.classLink "StackAssembler" 7 q.1 ∈ kz_TT ∧ Cond.instantiable q.1 (kz_N 11) ∈ kz_TT ∧ Cond.initialized q.1 ∈ kz_TT := ⟨_, rfl, wt_36, wt_37, wt_2⟩
theorem oi_SA_1 : Cond.methodLink "StackAssembler" 1 Lib.objectInit ∈ kz_TT ∧ Cond.instanceMethod Lib.objectInit ∈ kz_TT ∧ Cond.code Lib.objectInit ⟨#[0xb1]⟩ 1 none ∈ kz_TT := ⟨wt_33, wt_34, wt_35⟩
theorem fp_SA_10_SA_init : qz_fp yd_SA_init 10 0 4 := ⟨_, rfl, by decide, Or.inl ⟨rfl, Or.inl wt_351⟩⟩
theorem fp_SA_16_SA_init : qz_fp yd_SA_init 16 0 5 := ⟨_, rfl, by decide, Or.inl ⟨rfl, Or.inl wt_352⟩⟩
theorem fp_SA_22_SA_init : qz_fp yd_SA_init 22 0 6 := ⟨_, rfl, by decide, Or.inl ⟨rfl, Or.inl wt_353⟩⟩
theorem fp_SA_26_SA_init : qz_fp yd_SA_init 26 0 7 := ⟨_, rfl, by decide, Or.inl ⟨rfl, Or.inl wt_354⟩⟩
theorem fp_SA_34_SA_init : qz_fp yd_SA_init 34 0 0 := ⟨_, rfl, by decide, Or.inr ⟨rfl, rfl, rfl, wt_347⟩⟩
theorem fp_SA_43_SA_init : qz_fp yd_SA_init 43 0 1 := ⟨_, rfl, by decide, Or.inr ⟨rfl, rfl, rfl, wt_348⟩⟩
theorem fp_SA_50_SA_init : qz_fp yd_SA_init 50 0 2 := ⟨_, rfl, by decide, Or.inr ⟨rfl, rfl, rfl, wt_349⟩⟩
theorem fp_SA_59_SA_init : qz_fp yd_SA_init 59 0 3 := ⟨_, rfl, by decide, Or.inr ⟨rfl, rfl, rfl, wt_350⟩⟩
theorem fl_Text_15 : qz_fl "StackAssembler$Text" 15 11 1 := ⟨_, rfl, by decide, Or.inl wt_43⟩
theorem fp_Text_15_Text_add : qz_fp yd_Text_add 15 11 1 := ⟨_, rfl, by decide, Or.inl ⟨rfl, Or.inl wt_43⟩⟩
theorem ln_Text_28 : qz_ln "StackAssembler$Text" 28 yd_Text_add := Or.inl wt_383
theorem ln_SA_63 : qz_ln "StackAssembler" 63 yd_Text_addBytes := Or.inl wt_379
theorem fl_SA_67 : qz_fl "StackAssembler" 67 11 1 := ⟨_, rfl, by decide, Or.inl wt_45⟩
theorem fp_SA_67_SA_wipe : qz_fp yd_SA_wipe 67 11 1 := ⟨_, rfl, by decide, Or.inl ⟨rfl, Or.inl wt_45⟩⟩
theorem ln_SA_71 : qz_ln "StackAssembler" 71 yd_Text_at := Or.inl wt_395
theorem fl_Scanner_15 : qz_fl "StackAssembler$Scanner" 15 10 1 := ⟨_, rfl, by decide, Or.inl wt_168⟩
theorem fl_Scanner_19 : qz_fl "StackAssembler$Scanner" 19 10 2 := ⟨_, rfl, by decide, Or.inl wt_170⟩
theorem fl_Scanner_22 : qz_fl "StackAssembler$Scanner" 22 10 3 := ⟨_, rfl, by decide, Or.inl wt_172⟩
theorem fp_Scanner_15_Scanner_begin : qz_fp yd_Scanner_begin 15 10 1 := ⟨_, rfl, by decide, Or.inl ⟨rfl, Or.inl wt_168⟩⟩
theorem fp_Scanner_19_Scanner_begin : qz_fp yd_Scanner_begin 19 10 2 := ⟨_, rfl, by decide, Or.inl ⟨rfl, Or.inl wt_170⟩⟩
theorem fp_Scanner_22_Scanner_begin : qz_fp yd_Scanner_begin 22 10 3 := ⟨_, rfl, by decide, Or.inl ⟨rfl, Or.inl wt_172⟩⟩
theorem fp_Scanner_9_Scanner_begin : qz_fp yd_Scanner_begin 9 10 0 := ⟨_, rfl, by decide, Or.inl ⟨rfl, Or.inl wt_167⟩⟩
theorem fl_Module_36 : qz_fl "StackAssembler$Module" 36 6 4 := ⟨_, rfl, by decide, Or.inl wt_140⟩
theorem fp_Module_32_Module_clear : qz_fp yd_Module_clear 32 6 3 := ⟨_, rfl, by decide, Or.inl ⟨rfl, Or.inl wt_134⟩⟩
theorem fp_Module_36_Module_clear : qz_fp yd_Module_clear 36 6 4 := ⟨_, rfl, by decide, Or.inl ⟨rfl, Or.inl wt_140⟩⟩
theorem fl_Level_18 : qz_fl "StackAssembler$Level" 18 5 0 := ⟨_, rfl, by decide, Or.inl wt_196⟩
theorem fl_Level_22 : qz_fl "StackAssembler$Level" 22 5 1 := ⟨_, rfl, by decide, Or.inl wt_198⟩
theorem fl_Level_27 : qz_fl "StackAssembler$Level" 27 5 2 := ⟨_, rfl, by decide, Or.inl wt_200⟩
theorem fl_Level_30 : qz_fl "StackAssembler$Level" 30 5 4 := ⟨_, rfl, by decide, Or.inl wt_204⟩
theorem fp_Level_13_Level_begin : qz_fp yd_Level_begin 13 5 3 := ⟨_, rfl, by decide, Or.inl ⟨rfl, Or.inl wt_202⟩⟩
theorem fp_Level_18_Level_begin : qz_fp yd_Level_begin 18 5 0 := ⟨_, rfl, by decide, Or.inl ⟨rfl, Or.inl wt_196⟩⟩
theorem fp_Level_22_Level_begin : qz_fp yd_Level_begin 22 5 1 := ⟨_, rfl, by decide, Or.inl ⟨rfl, Or.inl wt_198⟩⟩
theorem fp_Level_27_Level_begin : qz_fp yd_Level_begin 27 5 2 := ⟨_, rfl, by decide, Or.inl ⟨rfl, Or.inl wt_200⟩⟩
theorem fp_Level_30_Level_begin : qz_fp yd_Level_begin 30 5 4 := ⟨_, rfl, by decide, Or.inl ⟨rfl, Or.inl wt_204⟩⟩
theorem ln_Scanner_29 : qz_ln "StackAssembler$Scanner" 29 yd_Text_at := Or.inl wt_554
theorem fl_Scanner_35 : qz_fl "StackAssembler$Scanner" 35 11 1 := ⟨_, rfl, by decide, Or.inl wt_46⟩
theorem ln_Scanner_56 : qz_ln "StackAssembler$Scanner" 56 yd_Scanner_behindLine := Or.inl wt_555
theorem ln_Scanner_59 : qz_ln "StackAssembler$Scanner" 59 yd_Scanner_behindComment := Or.inl wt_559
theorem ln_Scanner_53 : qz_ln "StackAssembler$Scanner" 53 yd_Scanner_behindGap := Or.inl wt_550
theorem ln_Scanner_38 : qz_ln "StackAssembler$Scanner" 38 yd_Scanner_isOfWord := Or.inl wt_563
theorem fl_java_lang_String_15 : qz_fl "java/lang/String" 15 13 1 := ⟨_, rfl, by decide, Or.inl wt_1694⟩
theorem sz_java_lang_String_COMPACT_STRINGS : ("java/lang/String", "COMPACT_STRINGS", "Z", 3, (1 : Int)) ∈ kz_st := List.mem_of_getElem? (i := 33) rfl
theorem sl_java_lang_String_38 : Cond.fieldLink "java/lang/String" 38 "java/lang/String" "COMPACT_STRINGS" "Z" ∈ kz_TT ∨ ∃ host, Cond.fieldLinkNest "java/lang/String" 38 "java/lang/String" "COMPACT_STRINGS" "Z" host ∈ kz_NT := Or.inl wt_588
theorem ln_java_lang_String_335 : qz_ln "java/lang/String" 335 yd_String_coder := Or.inl wt_584
theorem fl_java_lang_String_9 : qz_fl "java/lang/String" 9 13 0 := ⟨_, rfl, by decide, Or.inl wt_1693⟩
theorem ln_java_lang_String_1059 : qz_ln "java/lang/String" 1059 yd_Preconditions_checkIndex := Or.inl wt_606
theorem sl_java_lang_String_1053 : Cond.fieldLink "java/lang/String" 1053 "jdk/internal/util/Preconditions" "SIOOBE_FORMATTER" "Ljava/util/function/BiFunction;" ∈ kz_TT ∨ ∃ host, Cond.fieldLinkNest "java/lang/String" 1053 "jdk/internal/util/Preconditions" "SIOOBE_FORMATTER" "Ljava/util/function/BiFunction;" host ∈ kz_NT := Or.inl wt_604
theorem ln_java_lang_StringLatin1_9 : qz_ln "java/lang/StringLatin1" 9 yd_String_checkIndex := Or.inl wt_601
theorem ln_java_lang_String_495 : qz_ln "java/lang/String" 495 yd_StringLatin1_charAt := Or.inl wt_598
theorem ln_java_lang_String_492 : qz_ln "java/lang/String" 492 yd_String_isLatin1 := Or.inl wt_594
theorem ln_Scanner_62 : qz_ln "StackAssembler$Scanner" 62 yd_String_length := Or.inl wt_580
theorem ln_Scanner_67 : qz_ln "StackAssembler$Scanner" 67 yd_String_charAt := Or.inl wt_590
theorem ln_Scanner_72 : qz_ln "StackAssembler$Scanner" 72 yd_Scanner_is := Or.inl wt_576
theorem fl_Scanner_84 : qz_fl "StackAssembler$Scanner" 84 7 0 := ⟨_, rfl, by decide, Or.inl wt_1692⟩
theorem sz_Op_ALL : ("StackAssembler$Op", "ALL", "[LStackAssembler$Op;", 56, ((-31) : Int)) ∈ kz_st := List.mem_of_getElem? (i := 30) rfl
theorem sl_Scanner_78 : Cond.fieldLink "StackAssembler$Scanner" 78 "StackAssembler$Op" "ALL" "[LStackAssembler$Op;" ∈ kz_TT ∨ ∃ host, Cond.fieldLinkNest "StackAssembler$Scanner" 78 "StackAssembler$Op" "ALL" "[LStackAssembler$Op;" host ∈ kz_NT := Or.inr ⟨_, wn_574⟩
theorem ln_Scanner_25 : qz_ln "StackAssembler$Scanner" 25 yd_Scanner_behindGaps := Or.inl wt_546
theorem ln_Scanner_42 : qz_ln "StackAssembler$Scanner" 42 yd_Scanner_behindWord := Or.inl wt_566
theorem ln_Scanner_45 : qz_ln "StackAssembler$Scanner" 45 yd_Scanner_findOp := Or.inl wt_570
theorem fl_Scanner_49 : qz_fl "StackAssembler$Scanner" 49 10 4 := ⟨_, rfl, by decide, Or.inl wt_173⟩
theorem fp_Scanner_15_Scanner_next : qz_fp yd_Scanner_next 15 10 1 := ⟨_, rfl, by decide, Or.inl ⟨rfl, Or.inl wt_168⟩⟩
theorem fp_Scanner_19_Scanner_next : qz_fp yd_Scanner_next 19 10 2 := ⟨_, rfl, by decide, Or.inl ⟨rfl, Or.inl wt_170⟩⟩
theorem fp_Scanner_22_Scanner_next : qz_fp yd_Scanner_next 22 10 3 := ⟨_, rfl, by decide, Or.inl ⟨rfl, Or.inl wt_172⟩⟩
theorem fp_Scanner_49_Scanner_next : qz_fp yd_Scanner_next 49 10 4 := ⟨_, rfl, by decide, Or.inl ⟨rfl, Or.inl wt_173⟩⟩
theorem ln_java_lang_Long_302 : qz_ln "java/lang/Long" 302 yd_Long_compare := Or.inl wt_659
theorem wc_java_lang_Long_168 : Cond.constantLong "java/lang/Long" 168 (Int64.ofInt (-9223372036854775808)) ∈ kz_TT := by
  rw [show Int64.ofInt (-9223372036854775808) = ((-9223372036854775808) : Int64) from by decide]
  exact wt_658
theorem ln_Scanner_94 : qz_ln "StackAssembler$Scanner" 94 yd_Long_compareUnsigned := Or.inl wt_655
theorem fl_Scanner_88 : qz_fl "StackAssembler$Scanner" 88 10 5 := ⟨_, rfl, by decide, Or.inl wt_175⟩
theorem wc_Scanner_100 : Cond.constantLong "StackAssembler$Scanner" 100 (Int64.ofInt 10) ∈ kz_TT := by
  rw [show Int64.ofInt 10 = (10 : Int64) from by decide]
  exact wt_662
theorem wc_Scanner_92 : Cond.constantLong "StackAssembler$Scanner" 92 (Int64.ofInt 1844674407370955161) ∈ kz_TT := by
  rw [show Int64.ofInt 1844674407370955161 = (1844674407370955161 : Int64) from by decide]
  exact wt_654
theorem fp_Scanner_88_Scanner_readDigits : qz_fp yd_Scanner_readDigits 88 10 5 := ⟨_, rfl, by decide, Or.inl ⟨rfl, Or.inl wt_175⟩⟩
theorem ln_Reader_285 : qz_ln "StackAssembler$Reader" 285 yd_Long_compareUnsigned := Or.inl wt_663
theorem ln_Reader_277 : qz_ln "StackAssembler$Reader" 277 yd_Scanner_readDigits := Or.inl wt_650
theorem ln_Reader_294 : qz_ln "StackAssembler$Reader" 294 yd_Scanner_beginsWith := Or.inl wt_646
theorem fl_Reader_262 : qz_fl "StackAssembler$Reader" 262 9 8 := ⟨_, rfl, by decide, Or.inl wt_225⟩
theorem fl_Reader_280 : qz_fl "StackAssembler$Reader" 280 10 5 := ⟨_, rfl, by decide, Or.inl wt_176⟩
theorem fl_Reader_63 : qz_fl "StackAssembler$Reader" 63 10 2 := ⟨_, rfl, by decide, Or.inl wt_171⟩
theorem fp_Reader_262_Reader_readNumber : qz_fp yd_Reader_readNumber 262 9 8 := ⟨_, rfl, by decide, Or.inl ⟨rfl, Or.inl wt_225⟩⟩
theorem ln_Reader_227 : qz_ln "StackAssembler$Reader" 227 yd_Scanner_same := Or.inl wt_679
theorem ln_Reader_244 : qz_ln "StackAssembler$Reader" 244 yd_Level_isBlock := Or.inl wt_675
theorem fl_Reader_187 : qz_fl "StackAssembler$Reader" 187 5 2 := ⟨_, rfl, by decide, Or.inl wt_201⟩
theorem fl_Reader_46 : qz_fl "StackAssembler$Reader" 46 9 5 := ⟨_, rfl, by decide, Or.inl wt_222⟩
theorem ln_Reader_190 : qz_ln "StackAssembler$Reader" 190 yd_Module_latest := Or.inl wt_687
theorem fl_Reader_194 : qz_fl "StackAssembler$Reader" 194 4 2 := ⟨_, rfl, by decide, Or.inl wt_81⟩
theorem ln_Reader_181 : qz_ln "StackAssembler$Reader" 181 yd_Scanner_isName := Or.inl wt_666
theorem ln_Reader_184 : qz_ln "StackAssembler$Reader" 184 yd_Reader_slotNamed := Or.inl wt_683
theorem ln_Reader_269 : qz_ln "StackAssembler$Reader" 269 yd_Reader_readNumber := Or.inl wt_642
theorem ln_Reader_291 : qz_ln "StackAssembler$Reader" 291 yd_Reader_labelNamed := Or.inl wt_671
theorem wc_Reader_265 : Cond.constantLong "StackAssembler$Reader" 265 (Int64.ofInt 2147483648) ∈ kz_TT := by
  rw [show Int64.ofInt 2147483648 = (2147483648 : Int64) from by decide]
  exact wt_640
theorem wc_Reader_267 : Cond.constantLong "StackAssembler$Reader" 267 (Int64.ofInt 4294967295) ∈ kz_TT := by
  rw [show Int64.ofInt 4294967295 = (4294967295 : Int64) from by decide]
  exact wt_641
theorem wc_Reader_273 : Cond.constantLong "StackAssembler$Reader" 273 (Int64.ofInt (-9223372036854775808)) ∈ kz_TT := by
  rw [show Int64.ofInt (-9223372036854775808) = ((-9223372036854775808) : Int64) from by decide]
  exact wt_664
theorem wc_Reader_275 : Cond.constantLong "StackAssembler$Reader" 275 (Int64.ofInt (-1)) ∈ kz_TT := by
  rw [show Int64.ofInt (-1) = ((-1) : Int64) from by decide]
  exact wt_665
theorem wc_Reader_283 : Cond.constantLong "StackAssembler$Reader" 283 (Int64.ofInt 4294967296) ∈ kz_TT := by
  rw [show Int64.ofInt 4294967296 = (4294967296 : Int64) from by decide]
  exact wt_670
theorem fp_Reader_262_Reader_readOperand : qz_fp yd_Reader_readOperand 262 9 8 := ⟨_, rfl, by decide, Or.inl ⟨rfl, Or.inl wt_225⟩⟩
theorem fl_Reader_214 : qz_fl "StackAssembler$Reader" 214 6 4 := ⟨_, rfl, by decide, Or.inl wt_141⟩
theorem fl_Reader_217 : qz_fl "StackAssembler$Reader" 217 6 2 := ⟨_, rfl, by decide, Or.inl wt_133⟩
theorem ln_Reader_210 : qz_ln "StackAssembler$Reader" 210 yd_Reader_setLatestOperand := Or.inl wt_688
theorem ln_Reader_259 : qz_ln "StackAssembler$Reader" 259 yd_Reader_readOperand := Or.inl wt_636
theorem fl_Reader_163 : qz_fl "StackAssembler$Reader" 163 5 3 := ⟨_, rfl, by decide, Or.inl wt_203⟩
theorem fl_Reader_166 : qz_fl "StackAssembler$Reader" 166 5 4 := ⟨_, rfl, by decide, Or.inl wt_205⟩
theorem fl_Reader_253 : qz_fl "StackAssembler$Reader" 253 6 1 := ⟨_, rfl, by decide, Or.inl wt_127⟩
theorem fl_Reader_257 : qz_fl "StackAssembler$Reader" 257 7 2 := ⟨_, rfl, by decide, Or.inl wt_1695⟩
theorem fl_Reader_53 : qz_fl "StackAssembler$Reader" 53 9 6 := ⟨_, rfl, by decide, Or.inl wt_223⟩
theorem fl_Reader_73 : qz_fl "StackAssembler$Reader" 73 10 1 := ⟨_, rfl, by decide, Or.inl wt_169⟩
theorem fl_Reader_83 : qz_fl "StackAssembler$Reader" 83 5 0 := ⟨_, rfl, by decide, Or.inl wt_197⟩
theorem fp_Reader_166_Reader_inOperand : qz_fp yd_Reader_inOperand 166 5 4 := ⟨_, rfl, by decide, Or.inl ⟨rfl, Or.inl wt_205⟩⟩
theorem fp_Reader_53_Reader_inOperand : qz_fp yd_Reader_inOperand 53 9 6 := ⟨_, rfl, by decide, Or.inl ⟨rfl, Or.inl wt_223⟩⟩
theorem ln_Reader_50 : qz_ln "StackAssembler$Reader" 50 yd_Level_begin := Or.inl wt_538
theorem fp_Reader_46_Reader_push : qz_fp yd_Reader_push 46 9 5 := ⟨_, rfl, by decide, Or.inl ⟨rfl, Or.inl wt_222⟩⟩
theorem ln_Reader_105 : qz_ln "StackAssembler$Reader" 105 yd_Reader_push := Or.inl wt_700
theorem ln_Reader_118 : qz_ln "StackAssembler$Reader" 118 yd_Reader_open := Or.inl wt_696
theorem fl_Reader_115 : qz_fl "StackAssembler$Reader" 115 5 1 := ⟨_, rfl, by decide, Or.inl wt_199⟩
theorem fp_Reader_115_Reader_inText : qz_fp yd_Reader_inText 115 5 1 := ⟨_, rfl, by decide, Or.inl ⟨rfl, Or.inl wt_199⟩⟩
theorem fl_Function_15 : qz_fl "StackAssembler$Function" 15 4 1 := ⟨_, rfl, by decide, Or.inl wt_73⟩
theorem fl_Function_19 : qz_fl "StackAssembler$Function" 19 4 2 := ⟨_, rfl, by decide, Or.inl wt_78⟩
theorem fl_Function_22 : qz_fl "StackAssembler$Function" 22 4 3 := ⟨_, rfl, by decide, Or.inl wt_82⟩
theorem fl_Function_25 : qz_fl "StackAssembler$Function" 25 4 4 := ⟨_, rfl, by decide, Or.inl wt_88⟩
theorem fl_Function_28 : qz_fl "StackAssembler$Function" 28 4 5 := ⟨_, rfl, by decide, Or.inl wt_94⟩
theorem fp_Function_15_Function_begin : qz_fp yd_Function_begin 15 4 1 := ⟨_, rfl, by decide, Or.inl ⟨rfl, Or.inl wt_73⟩⟩
theorem fp_Function_19_Function_begin : qz_fp yd_Function_begin 19 4 2 := ⟨_, rfl, by decide, Or.inl ⟨rfl, Or.inl wt_78⟩⟩
theorem fp_Function_22_Function_begin : qz_fp yd_Function_begin 22 4 3 := ⟨_, rfl, by decide, Or.inl ⟨rfl, Or.inl wt_82⟩⟩
theorem fp_Function_25_Function_begin : qz_fp yd_Function_begin 25 4 4 := ⟨_, rfl, by decide, Or.inl ⟨rfl, Or.inl wt_88⟩⟩
theorem fp_Function_28_Function_begin : qz_fp yd_Function_begin 28 4 5 := ⟨_, rfl, by decide, Or.inl ⟨rfl, Or.inl wt_94⟩⟩
theorem ln_Module_60 : qz_ln "StackAssembler$Module" 60 yd_Module_latest := Or.inl wt_720
theorem ln_Module_64 : qz_ln "StackAssembler$Module" 64 yd_Function_begin := Or.inl wt_721
theorem fp_Module_32_Module_addFunction : qz_fp yd_Module_addFunction 32 6 3 := ⟨_, rfl, by decide, Or.inl ⟨rfl, Or.inl wt_134⟩⟩
theorem fl_Reader_235 : qz_fl "StackAssembler$Reader" 235 6 3 := ⟨_, rfl, by decide, Or.inl wt_139⟩
theorem ln_Reader_125 : qz_ln "StackAssembler$Reader" 125 yd_Scanner_is := Or.inl wt_710
theorem ln_Reader_141 : qz_ln "StackAssembler$Reader" 141 yd_Module_addFunction := Or.inl wt_716
theorem ln_Reader_145 : qz_ln "StackAssembler$Reader" 145 yd_Reader_setFunctionName := Or.inl wt_725
theorem fp_Reader_83_Reader_beginFunction : qz_fp yd_Reader_beginFunction 83 5 0 := ⟨_, rfl, by decide, Or.inl ⟨rfl, Or.inl wt_197⟩⟩
theorem ss_Reader_139 : ("StackAssembler$Reader", 139, "func", ((-37) : Int)) ∈ kz_ss := List.mem_of_getElem? (i := 1) rfl
theorem fl_Op_126 : qz_fl "StackAssembler$Op" 126 7 2 := ⟨_, rfl, by decide, Or.inl wt_1696⟩
theorem ln_Op_138 : qz_ln "StackAssembler$Op" 138 yd_Op_opensBlock := Or.inl wt_737
theorem sz_Op_ELSE : ("StackAssembler$Op", "ELSE", "LStackAssembler$Op;", 17, ((-6) : Int)) ∈ kz_st := List.mem_of_getElem? (i := 5) rfl
theorem sl_Op_21 : Cond.fieldLink "StackAssembler$Op" 21 "StackAssembler$Op" "ELSE" "LStackAssembler$Op;" ∈ kz_TT ∨ ∃ host, Cond.fieldLinkNest "StackAssembler$Op" 21 "StackAssembler$Op" "ELSE" "LStackAssembler$Op;" host ∈ kz_NT := Or.inl wt_741
theorem sz_Op_END : ("StackAssembler$Op", "END", "LStackAssembler$Op;", 17, ((-7) : Int)) ∈ kz_st := List.mem_of_getElem? (i := 6) rfl
theorem sl_Op_24 : Cond.fieldLink "StackAssembler$Op" 24 "StackAssembler$Op" "END" "LStackAssembler$Op;" ∈ kz_TT ∨ ∃ host, Cond.fieldLinkNest "StackAssembler$Op" 24 "StackAssembler$Op" "END" "LStackAssembler$Op;" host ∈ kz_NT := Or.inl wt_743
theorem ln_Reader_158 : qz_ln "StackAssembler$Reader" 158 yd_Op_isPlain := Or.inl wt_733
theorem ln_Reader_164 : qz_ln "StackAssembler$Reader" 164 yd_Op_awaitsOperand := Or.inl wt_744
theorem fl_Reader_154 : qz_fl "StackAssembler$Reader" 154 10 4 := ⟨_, rfl, by decide, Or.inl wt_174⟩
theorem fp_Reader_163_Reader_beginFolded : qz_fp yd_Reader_beginFolded 163 5 3 := ⟨_, rfl, by decide, Or.inl ⟨rfl, Or.inl wt_203⟩⟩
theorem fp_Reader_53_Reader_beginFolded : qz_fp yd_Reader_beginFolded 53 9 6 := ⟨_, rfl, by decide, Or.inl ⟨rfl, Or.inl wt_223⟩⟩
theorem fp_Reader_83_Reader_beginFolded : qz_fp yd_Reader_beginFolded 83 5 0 := ⟨_, rfl, by decide, Or.inl ⟨rfl, Or.inl wt_197⟩⟩
theorem ln_Reader_132 : qz_ln "StackAssembler$Reader" 132 yd_Reader_beginFolded := Or.inl wt_729
theorem fp_Reader_115_Reader_beginPart : qz_fp yd_Reader_beginPart 115 5 1 := ⟨_, rfl, by decide, Or.inl ⟨rfl, Or.inl wt_199⟩⟩
theorem fp_Reader_83_Reader_beginPart : qz_fp yd_Reader_beginPart 83 5 0 := ⟨_, rfl, by decide, Or.inl ⟨rfl, Or.inl wt_197⟩⟩
theorem ss_Reader_148 : ("StackAssembler$Reader", 148, "param", ((-39) : Int)) ∈ kz_ss := List.mem_of_getElem? (i := 2) rfl
theorem ss_Reader_150 : ("StackAssembler$Reader", 150, "result", ((-41) : Int)) ∈ kz_ss := List.mem_of_getElem? (i := 3) rfl
theorem ss_Reader_152 : ("StackAssembler$Reader", 152, "local", ((-43) : Int)) ∈ kz_ss := List.mem_of_getElem? (i := 4) rfl
theorem ln_Reader_129 : qz_ln "StackAssembler$Reader" 129 yd_Reader_beginFunction := Or.inl wt_711
theorem ln_Reader_135 : qz_ln "StackAssembler$Reader" 135 yd_Reader_beginPart := Or.inl wt_748
theorem ma_Reader_109 : Cond.methodLink "StackAssembler$Reader" 109 Lib.Math.max.name ∈ kz_TT ∧ Cond.static Lib.Math.max.name ∈ kz_TT ∧ Cond.initialized "java/lang/Math" ∈ kz_TT ∧ Cond.code Lib.Math.max.name Lib.Math.max.code 2 (some .int) ∈ kz_TT := ⟨wt_708, wt_265, wt_11, wt_266⟩
theorem fp_Reader_83_Reader_behindOpening : qz_fp yd_Reader_behindOpening 83 5 0 := ⟨_, rfl, by decide, Or.inl ⟨rfl, Or.inl wt_197⟩⟩
theorem ss_Reader_124 : ("StackAssembler$Reader", 124, "module", ((-35) : Int)) ∈ kz_ss := List.mem_of_getElem? (i := 0) rfl
theorem fp_Reader_46_Reader_close : qz_fp yd_Reader_close 46 9 5 := ⟨_, rfl, by decide, Or.inl ⟨rfl, Or.inl wt_222⟩⟩
theorem ln_Reader_121 : qz_ln "StackAssembler$Reader" 121 yd_Reader_close := Or.inl wt_759
theorem ss_Scanner_70 : ("StackAssembler$Scanner", 70, "i32", ((-45) : Int)) ∈ kz_ss := List.mem_of_getElem? (i := 5) rfl
theorem ss_Scanner_76 : ("StackAssembler$Scanner", 76, "i64", ((-47) : Int)) ∈ kz_ss := List.mem_of_getElem? (i := 6) rfl
theorem fp_Function_19_Function_addLocal : qz_fp yd_Function_addLocal 19 4 2 := ⟨_, rfl, by decide, Or.inl ⟨rfl, Or.inl wt_78⟩⟩
theorem ln_Function_33 : qz_ln "StackAssembler$Function" 33 yd_Function_addLocal := Or.inl wt_781
theorem fp_Function_15_Function_addParameter : qz_fp yd_Function_addParameter 15 4 1 := ⟨_, rfl, by decide, Or.inl ⟨rfl, Or.inl wt_73⟩⟩
theorem ln_Reader_199 : qz_ln "StackAssembler$Reader" 199 yd_Function_addParameter := Or.inl wt_777
theorem ln_Reader_202 : qz_ln "StackAssembler$Reader" 202 yd_Function_addLocal := Or.inl wt_785
theorem ln_Reader_174 : qz_ln "StackAssembler$Reader" 174 yd_Scanner_valueType := Or.inl wt_767
theorem ln_Reader_177 : qz_ln "StackAssembler$Reader" 177 yd_Reader_declare := Or.inl wt_773
theorem fp_Reader_115_Reader_inDeclaration : qz_fp yd_Reader_inDeclaration 115 5 1 := ⟨_, rfl, by decide, Or.inl ⟨rfl, Or.inl wt_199⟩⟩
theorem fp_Reader_187_Reader_inDeclaration : qz_fp yd_Reader_inDeclaration 187 5 2 := ⟨_, rfl, by decide, Or.inl ⟨rfl, Or.inl wt_201⟩⟩
theorem fl_Reader_208 : qz_fl "StackAssembler$Reader" 208 4 3 := ⟨_, rfl, by decide, Or.inl wt_87⟩
theorem fp_Reader_208_Reader_setResult : qz_fp yd_Reader_setResult 208 4 3 := ⟨_, rfl, by decide, Or.inl ⟨rfl, Or.inl wt_87⟩⟩
theorem ln_Reader_205 : qz_ln "StackAssembler$Reader" 205 yd_Reader_setResult := Or.inl wt_790
theorem fp_Reader_115_Reader_inResult : qz_fp yd_Reader_inResult 115 5 1 := ⟨_, rfl, by decide, Or.inl ⟨rfl, Or.inl wt_199⟩⟩
theorem fl_Module_45 : qz_fl "StackAssembler$Module" 45 4 5 := ⟨_, rfl, by decide, Or.inl wt_97⟩
theorem fp_Module_36_Module_add : qz_fp yd_Module_add 36 6 4 := ⟨_, rfl, by decide, Or.inl ⟨rfl, Or.inl wt_140⟩⟩
theorem fp_Module_45_Module_add : qz_fp yd_Module_add 45 4 5 := ⟨_, rfl, by decide, Or.inl ⟨rfl, Or.inl wt_97⟩⟩
theorem ln_Reader_170 : qz_ln "StackAssembler$Reader" 170 yd_Module_add := Or.inl wt_798
theorem ln_Reader_247 : qz_ln "StackAssembler$Reader" 247 yd_Op_opensBlock := Or.inl wt_812
theorem fl_Reader_57 : qz_fl "StackAssembler$Reader" 57 9 7 := ⟨_, rfl, by decide, Or.inl wt_224⟩
theorem fp_Reader_115_Reader_instructionIn : qz_fp yd_Reader_instructionIn 115 5 1 := ⟨_, rfl, by decide, Or.inl ⟨rfl, Or.inl wt_199⟩⟩
theorem fp_Reader_53_Reader_instructionIn : qz_fp yd_Reader_instructionIn 53 9 6 := ⟨_, rfl, by decide, Or.inl ⟨rfl, Or.inl wt_223⟩⟩
theorem fp_Reader_57_Reader_instructionIn : qz_fp yd_Reader_instructionIn 57 9 7 := ⟨_, rfl, by decide, Or.inl ⟨rfl, Or.inl wt_224⟩⟩
theorem fp_Reader_83_Reader_instructionIn : qz_fp yd_Reader_instructionIn 83 5 0 := ⟨_, rfl, by decide, Or.inl ⟨rfl, Or.inl wt_197⟩⟩
theorem sl_Reader_238 : Cond.fieldLink "StackAssembler$Reader" 238 "StackAssembler$Op" "ELSE" "LStackAssembler$Op;" ∈ kz_TT ∨ ∃ host, Cond.fieldLinkNest "StackAssembler$Reader" 238 "StackAssembler$Op" "ELSE" "LStackAssembler$Op;" host ∈ kz_NT := Or.inl wt_810
theorem sl_Reader_241 : Cond.fieldLink "StackAssembler$Reader" 241 "StackAssembler$Op" "END" "LStackAssembler$Op;" ∈ kz_TT ∨ ∃ host, Cond.fieldLinkNest "StackAssembler$Reader" 241 "StackAssembler$Op" "END" "LStackAssembler$Op;" host ∈ kz_NT := Or.inl wt_811
theorem sz_Op_IF : ("StackAssembler$Op", "IF", "LStackAssembler$Op;", 17, ((-5) : Int)) ∈ kz_st := List.mem_of_getElem? (i := 4) rfl
theorem sl_Reader_250 : Cond.fieldLink "StackAssembler$Reader" 250 "StackAssembler$Op" "IF" "LStackAssembler$Op;" ∈ kz_TT ∨ ∃ host, Cond.fieldLinkNest "StackAssembler$Reader" 250 "StackAssembler$Op" "IF" "LStackAssembler$Op;" host ∈ kz_NT := Or.inl wt_813
theorem ln_Reader_231 : qz_ln "StackAssembler$Reader" 231 yd_Reader_functionNamed := Or.inl wt_819
theorem fp_Reader_115_Reader_giveName : qz_fp yd_Reader_giveName 115 5 1 := ⟨_, rfl, by decide, Or.inl ⟨rfl, Or.inl wt_199⟩⟩
theorem fp_Reader_187_Reader_giveName : qz_fp yd_Reader_giveName 187 5 2 := ⟨_, rfl, by decide, Or.inl ⟨rfl, Or.inl wt_201⟩⟩
theorem ln_Reader_221 : qz_ln "StackAssembler$Reader" 221 yd_Reader_instructionIn := Or.inl wt_806
theorem ln_Reader_224 : qz_ln "StackAssembler$Reader" 224 yd_Reader_giveName := Or.inl wt_815
theorem fp_Reader_57_Reader_inBody : qz_fp yd_Reader_inBody 57 9 7 := ⟨_, rfl, by decide, Or.inl ⟨rfl, Or.inl wt_224⟩⟩
theorem ln_Reader_102 : qz_ln "StackAssembler$Reader" 102 yd_Reader_inBody := Or.inl wt_802
theorem ln_Reader_80 : qz_ln "StackAssembler$Reader" 80 yd_Reader_inOperand := Or.inl wt_632
theorem ln_Reader_84 : qz_ln "StackAssembler$Reader" 84 yd_Reader_inText := Or.inl wt_692
theorem ln_Reader_87 : qz_ln "StackAssembler$Reader" 87 yd_Reader_behindOpening := Or.inl wt_704
theorem ln_Reader_90 : qz_ln "StackAssembler$Reader" 90 yd_Reader_inModule := Or.inl wt_755
theorem ln_Reader_93 : qz_ln "StackAssembler$Reader" 93 yd_Reader_inDeclaration := Or.inl wt_763
theorem ln_Reader_96 : qz_ln "StackAssembler$Reader" 96 yd_Reader_inResult := Or.inl wt_786
theorem ln_Reader_99 : qz_ln "StackAssembler$Reader" 99 yd_Reader_inFolded := Or.inl wt_794
theorem fl_Reader_66 : qz_fl "StackAssembler$Reader" 66 9 9 := ⟨_, rfl, by decide, Or.inl wt_226⟩
theorem ma_Reader_301 : Cond.methodLink "StackAssembler$Reader" 301 Lib.Math.min.name ∈ kz_TT ∧ Cond.static Lib.Math.min.name ∈ kz_TT ∧ Cond.initialized "java/lang/Math" ∈ kz_TT ∧ Cond.code Lib.Math.min.name Lib.Math.min.code 2 (some .int) ∈ kz_TT := ⟨wt_829, wt_262, wt_11, wt_263⟩
theorem fp_Reader_66_Reader_findFunctions : qz_fp yd_Reader_findFunctions 66 9 9 := ⟨_, rfl, by decide, Or.inl ⟨rfl, Or.inl wt_226⟩⟩
theorem sz_Op_CALL : ("StackAssembler$Op", "CALL", "LStackAssembler$Op;", 17, ((-11) : Int)) ∈ kz_st := List.mem_of_getElem? (i := 10) rfl
theorem sl_Reader_298 : Cond.fieldLink "StackAssembler$Reader" 298 "StackAssembler$Op" "CALL" "LStackAssembler$Op;" ∈ kz_TT ∨ ∃ host, Cond.fieldLinkNest "StackAssembler$Reader" 298 "StackAssembler$Op" "CALL" "LStackAssembler$Op;" host ∈ kz_NT := Or.inl wt_827
theorem ln_Reader_38 : qz_ln "StackAssembler$Reader" 38 yd_Scanner_begin := Or.inl wt_530
theorem ln_Reader_41 : qz_ln "StackAssembler$Reader" 41 yd_Module_clear := Or.inl wt_534
theorem ln_Reader_60 : qz_ln "StackAssembler$Reader" 60 yd_Scanner_next := Or.inl wt_542
theorem ln_Reader_69 : qz_ln "StackAssembler$Reader" 69 yd_Reader_judge := Or.inl wt_628
theorem ln_Reader_76 : qz_ln "StackAssembler$Reader" 76 yd_Reader_findFunctions := Or.inl wt_823
theorem fp_Reader_24_Reader_read : qz_fp yd_Reader_read 24 9 4 := ⟨_, rfl, by decide, Or.inl ⟨rfl, Or.inl wt_221⟩⟩
theorem fp_Reader_46_Reader_read : qz_fp yd_Reader_read 46 9 5 := ⟨_, rfl, by decide, Or.inl ⟨rfl, Or.inl wt_222⟩⟩
theorem fp_Reader_53_Reader_read : qz_fp yd_Reader_read 53 9 6 := ⟨_, rfl, by decide, Or.inl ⟨rfl, Or.inl wt_223⟩⟩
theorem fp_Reader_57_Reader_read : qz_fp yd_Reader_read 57 9 7 := ⟨_, rfl, by decide, Or.inl ⟨rfl, Or.inl wt_224⟩⟩
theorem fp_Reader_66_Reader_read : qz_fp yd_Reader_read 66 9 9 := ⟨_, rfl, by decide, Or.inl ⟨rfl, Or.inl wt_226⟩⟩
theorem fl_Frame_13 : qz_fl "StackAssembler$Frame" 13 3 1 := ⟨_, rfl, by decide, Or.inl wt_274⟩
theorem fl_Frame_16 : qz_fl "StackAssembler$Frame" 16 3 2 := ⟨_, rfl, by decide, Or.inl wt_276⟩
theorem fl_Frame_19 : qz_fl "StackAssembler$Frame" 19 3 3 := ⟨_, rfl, by decide, Or.inl wt_278⟩
theorem fl_Frame_23 : qz_fl "StackAssembler$Frame" 23 3 4 := ⟨_, rfl, by decide, Or.inl wt_280⟩
theorem fl_Frame_7 : qz_fl "StackAssembler$Frame" 7 3 0 := ⟨_, rfl, by decide, Or.inl wt_272⟩
theorem fp_Frame_13_Frame_begin : qz_fp yd_Frame_begin 13 3 1 := ⟨_, rfl, by decide, Or.inl ⟨rfl, Or.inl wt_274⟩⟩
theorem fp_Frame_16_Frame_begin : qz_fp yd_Frame_begin 16 3 2 := ⟨_, rfl, by decide, Or.inl ⟨rfl, Or.inl wt_276⟩⟩
theorem fp_Frame_19_Frame_begin : qz_fp yd_Frame_begin 19 3 3 := ⟨_, rfl, by decide, Or.inl ⟨rfl, Or.inl wt_278⟩⟩
theorem fp_Frame_23_Frame_begin : qz_fp yd_Frame_begin 23 3 4 := ⟨_, rfl, by decide, Or.inl ⟨rfl, Or.inl wt_280⟩⟩
theorem fp_Frame_7_Frame_begin : qz_fp yd_Frame_begin 7 3 0 := ⟨_, rfl, by decide, Or.inl ⟨rfl, Or.inl wt_272⟩⟩
theorem fl_java_lang_Enum_7 : qz_fl "java/lang/Enum" 7 7 6 := ⟨_, rfl, by decide, Or.inl wt_1697⟩
theorem fl_Checker_162 : qz_fl "StackAssembler$Checker" 162 3 2 := ⟨_, rfl, by decide, Or.inl wt_277⟩
theorem fl_Checker_163 : qz_fl "StackAssembler$Checker" 163 3 3 := ⟨_, rfl, by decide, Or.inl wt_279⟩
theorem fl_Checker_36 : qz_fl "StackAssembler$Checker" 36 1 6 := ⟨_, rfl, by decide, Or.inl wt_299⟩
theorem fl_Checker_55 : qz_fl "StackAssembler$Checker" 55 1 4 := ⟨_, rfl, by decide, Or.inl wt_297⟩
theorem fl_Checker_58 : qz_fl "StackAssembler$Checker" 58 1 5 := ⟨_, rfl, by decide, Or.inl wt_298⟩
theorem fp_Checker_36_Checker_take : qz_fp yd_Checker_take 36 1 6 := ⟨_, rfl, by decide, Or.inl ⟨rfl, Or.inl wt_299⟩⟩
theorem fp_Checker_55_Checker_take : qz_fp yd_Checker_take 55 1 4 := ⟨_, rfl, by decide, Or.inl ⟨rfl, Or.inl wt_297⟩⟩
theorem ln_Checker_125 : qz_ln "StackAssembler$Checker" 125 yd_Checker_take := Or.inl wt_859
theorem ln_Checker_66 : qz_ln "StackAssembler$Checker" 66 yd_Frame_begin := Or.inl wt_838
theorem fl_Checker_158 : qz_fl "StackAssembler$Checker" 158 3 4 := ⟨_, rfl, by decide, Or.inl wt_281⟩
theorem fp_Checker_158_Checker_beginFrame : qz_fp yd_Checker_beginFrame 158 3 4 := ⟨_, rfl, by decide, Or.inl ⟨rfl, Or.inl wt_281⟩⟩
theorem fp_Checker_36_Checker_beginFrame : qz_fp yd_Checker_beginFrame 36 1 6 := ⟨_, rfl, by decide, Or.inl ⟨rfl, Or.inl wt_299⟩⟩
theorem fp_Checker_58_Checker_beginFrame : qz_fp yd_Checker_beginFrame 58 1 5 := ⟨_, rfl, by decide, Or.inl ⟨rfl, Or.inl wt_298⟩⟩
theorem sl_Checker_151 : Cond.fieldLink "StackAssembler$Checker" 151 "StackAssembler$Op" "IF" "LStackAssembler$Op;" ∈ kz_TT ∨ ∃ host, Cond.fieldLinkNest "StackAssembler$Checker" 151 "StackAssembler$Op" "IF" "LStackAssembler$Op;" host ∈ kz_NT := Or.inl wt_858
theorem sz_Op_LOOP : ("StackAssembler$Op", "LOOP", "LStackAssembler$Op;", 17, ((-4) : Int)) ∈ kz_st := List.mem_of_getElem? (i := 3) rfl
theorem sl_Checker_155 : Cond.fieldLink "StackAssembler$Checker" 155 "StackAssembler$Op" "LOOP" "LStackAssembler$Op;" ∈ kz_TT ∨ ∃ host, Cond.fieldLinkNest "StackAssembler$Checker" 155 "StackAssembler$Op" "LOOP" "LStackAssembler$Op;" host ∈ kz_NT := Or.inl wt_863
theorem ln_Checker_114 : qz_ln "StackAssembler$Checker" 114 yd_Checker_takeResult := Or.inl wt_869
theorem fl_Checker_161 : qz_fl "StackAssembler$Checker" 161 3 1 := ⟨_, rfl, by decide, Or.inl wt_275⟩
theorem fp_Checker_36_Checker_endFrame : qz_fp yd_Checker_endFrame 36 1 6 := ⟨_, rfl, by decide, Or.inl ⟨rfl, Or.inl wt_299⟩⟩
theorem fp_Checker_158_Checker_restartFrame : qz_fp yd_Checker_restartFrame 158 3 4 := ⟨_, rfl, by decide, Or.inl ⟨rfl, Or.inl wt_281⟩⟩
theorem fp_Checker_163_Checker_restartFrame : qz_fp yd_Checker_restartFrame 163 3 3 := ⟨_, rfl, by decide, Or.inl ⟨rfl, Or.inl wt_279⟩⟩
theorem fp_Checker_55_Checker_restartFrame : qz_fp yd_Checker_restartFrame 55 1 4 := ⟨_, rfl, by decide, Or.inl ⟨rfl, Or.inl wt_297⟩⟩
theorem fp_Checker_55_Checker_put : qz_fp yd_Checker_put 55 1 4 := ⟨_, rfl, by decide, Or.inl ⟨rfl, Or.inl wt_297⟩⟩
theorem ln_Checker_148 : qz_ln "StackAssembler$Checker" 148 yd_Checker_put := Or.inl wt_882
theorem ln_Checker_88 : qz_ln "StackAssembler$Checker" 88 yd_Checker_endFrame := Or.inl wt_865
theorem ma_Checker_166 : Cond.methodLink "StackAssembler$Checker" 166 Lib.Math.max.name ∈ kz_TT ∧ Cond.static Lib.Math.max.name ∈ kz_TT ∧ Cond.initialized "java/lang/Math" ∈ kz_TT ∧ Cond.code Lib.Math.max.name Lib.Math.max.code 2 (some .int) ∈ kz_TT := ⟨wt_881, wt_265, wt_11, wt_266⟩
theorem fp_Checker_36_Checker_leaveFrame : qz_fp yd_Checker_leaveFrame 36 1 6 := ⟨_, rfl, by decide, Or.inl ⟨rfl, Or.inl wt_299⟩⟩
theorem fp_Checker_58_Checker_leaveFrame : qz_fp yd_Checker_leaveFrame 58 1 5 := ⟨_, rfl, by decide, Or.inl ⟨rfl, Or.inl wt_298⟩⟩
theorem fp_Checker_163_Checker_makeUnreachable : qz_fp yd_Checker_makeUnreachable 163 3 3 := ⟨_, rfl, by decide, Or.inl ⟨rfl, Or.inl wt_279⟩⟩
theorem fp_Checker_55_Checker_makeUnreachable : qz_fp yd_Checker_makeUnreachable 55 1 4 := ⟨_, rfl, by decide, Or.inl ⟨rfl, Or.inl wt_297⟩⟩
theorem ln_Checker_118 : qz_ln "StackAssembler$Checker" 118 yd_Checker_makeUnreachable := Or.inl wt_892
theorem fl_Checker_175 : qz_fl "StackAssembler$Checker" 175 3 0 := ⟨_, rfl, by decide, Or.inl wt_273⟩
theorem fp_Checker_36_Checker_checkBranch : qz_fp yd_Checker_checkBranch 36 1 6 := ⟨_, rfl, by decide, Or.inl ⟨rfl, Or.inl wt_299⟩⟩
theorem sz_Op_BR_IF : ("StackAssembler$Op", "BR_IF", "LStackAssembler$Op;", 17, ((-9) : Int)) ∈ kz_st := List.mem_of_getElem? (i := 8) rfl
theorem sl_Checker_172 : Cond.fieldLink "StackAssembler$Checker" 172 "StackAssembler$Op" "BR_IF" "LStackAssembler$Op;" ∈ kz_TT ∨ ∃ host, Cond.fieldLinkNest "StackAssembler$Checker" 172 "StackAssembler$Op" "BR_IF" "LStackAssembler$Op;" host ∈ kz_NT := Or.inl wt_890
theorem wc_Module_39 : Cond.constantLong "StackAssembler$Module" 39 (Int64.ofInt 4) ∈ kz_TT := by
  rw [show Int64.ofInt 4 = (4 : Int64) from by decide]
  exact wt_501
theorem ln_Checker_178 : qz_ln "StackAssembler$Checker" 178 yd_Module_hasFunction := Or.inl wt_900
theorem fl_Checker_182 : qz_fl "StackAssembler$Checker" 182 4 1 := ⟨_, rfl, by decide, Or.inl wt_77⟩
theorem fl_Checker_188 : qz_fl "StackAssembler$Checker" 188 4 0 := ⟨_, rfl, by decide, Or.inl wt_72⟩
theorem fl_Checker_44 : qz_fl "StackAssembler$Checker" 44 6 0 := ⟨_, rfl, by decide, Or.inl wt_118⟩
theorem fl_Checker_61 : qz_fl "StackAssembler$Checker" 61 4 3 := ⟨_, rfl, by decide, Or.inl wt_83⟩
theorem ma_Checker_185 : Cond.methodLink "StackAssembler$Checker" 185 Lib.Math.min.name ∈ kz_TT ∧ Cond.static Lib.Math.min.name ∈ kz_TT ∧ Cond.initialized "java/lang/Math" ∈ kz_TT ∧ Cond.code Lib.Math.min.name Lib.Math.min.code 2 (some .int) ∈ kz_TT := ⟨wt_901, wt_262, wt_11, wt_263⟩
theorem fp_Checker_36_Checker_checkCall : qz_fp yd_Checker_checkCall 36 1 6 := ⟨_, rfl, by decide, Or.inl ⟨rfl, Or.inl wt_299⟩⟩
theorem wc_Function_31 : Cond.constantLong "StackAssembler$Function" 31 (Int64.ofInt 8) ∈ kz_TT := by
  rw [show Int64.ofInt 8 = (8 : Int64) from by decide]
  exact wt_462
theorem ln_Checker_191 : qz_ln "StackAssembler$Checker" 191 yd_Function_hasSlot := Or.inl wt_910
theorem fp_Checker_36_Checker_checkSlot : qz_fp yd_Checker_checkSlot 36 1 6 := ⟨_, rfl, by decide, Or.inl ⟨rfl, Or.inl wt_299⟩⟩
theorem sz_Op_LOCAL_GET : ("StackAssembler$Op", "LOCAL_GET", "LStackAssembler$Op;", 17, ((-14) : Int)) ∈ kz_st := List.mem_of_getElem? (i := 13) rfl
theorem sl_Checker_194 : Cond.fieldLink "StackAssembler$Checker" 194 "StackAssembler$Op" "LOCAL_GET" "LStackAssembler$Op;" ∈ kz_TT ∨ ∃ host, Cond.fieldLinkNest "StackAssembler$Checker" 194 "StackAssembler$Op" "LOCAL_GET" "LStackAssembler$Op;" host ∈ kz_NT := Or.inl wt_911
theorem sz_Op_LOCAL_SET : ("StackAssembler$Op", "LOCAL_SET", "LStackAssembler$Op;", 17, ((-15) : Int)) ∈ kz_st := List.mem_of_getElem? (i := 14) rfl
theorem sl_Checker_197 : Cond.fieldLink "StackAssembler$Checker" 197 "StackAssembler$Op" "LOCAL_SET" "LStackAssembler$Op;" ∈ kz_TT ∨ ∃ host, Cond.fieldLinkNest "StackAssembler$Checker" 197 "StackAssembler$Op" "LOCAL_SET" "LStackAssembler$Op;" host ∈ kz_NT := Or.inl wt_913
theorem fl_Checker_139 : qz_fl "StackAssembler$Checker" 139 7 3 := ⟨_, rfl, by decide, Or.inl wt_1698⟩
theorem fl_Checker_142 : qz_fl "StackAssembler$Checker" 142 7 4 := ⟨_, rfl, by decide, Or.inl wt_1699⟩
theorem fl_Checker_145 : qz_fl "StackAssembler$Checker" 145 7 5 := ⟨_, rfl, by decide, Or.inl wt_1700⟩
theorem ln_Checker_101 : qz_ln "StackAssembler$Checker" 101 yd_Checker_beginFrame := Or.inl wt_854
theorem ln_Checker_105 : qz_ln "StackAssembler$Checker" 105 yd_Checker_restartFrame := Or.inl wt_873
theorem ln_Checker_108 : qz_ln "StackAssembler$Checker" 108 yd_Checker_leaveFrame := Or.inl wt_877
theorem ln_Checker_111 : qz_ln "StackAssembler$Checker" 111 yd_Checker_checkBranch := Or.inl wt_886
theorem ln_Checker_121 : qz_ln "StackAssembler$Checker" 121 yd_Checker_checkCall := Or.inl wt_896
theorem ln_Checker_129 : qz_ln "StackAssembler$Checker" 129 yd_Checker_checkSelect := Or.inl wt_902
theorem ln_Checker_132 : qz_ln "StackAssembler$Checker" 132 yd_Checker_checkSlot := Or.inl wt_906
theorem ln_Checker_135 : qz_ln "StackAssembler$Checker" 135 yd_Checker_checkSimple := Or.inl wt_915
theorem ou_Checker_96 : Cond.methodLink "StackAssembler$Checker" 96 ⟨"StackAssembler$Op", "ordinal", "()I"⟩ ∈ kz_TT ∧ Cond.sameMethod "StackAssembler$Op" "java/lang/Enum" "ordinal" "()I" ∈ kz_TT ∧ Cond.selects "StackAssembler$Op" ⟨"StackAssembler$Op", "ordinal", "()I"⟩ yd_Enum_ordinal.1 ∈ kz_TT ∧ Cond.instanceMethod yd_Enum_ordinal.1 ∈ kz_TT := ⟨wt_848, wt_849, wt_851, wt_852⟩
theorem sz_1__SwitchMap_StackAssembler_Op : ("StackAssembler$1", "$SwitchMap$StackAssembler$Op", "[I", 50, ((-33) : Int)) ∈ kz_st := List.mem_of_getElem? (i := 32) rfl
theorem sl_Checker_91 : Cond.fieldLink "StackAssembler$Checker" 91 "StackAssembler$1" "$SwitchMap$StackAssembler$Op" "[I" ∈ kz_TT ∨ ∃ host, Cond.fieldLinkNest "StackAssembler$Checker" 91 "StackAssembler$1" "$SwitchMap$StackAssembler$Op" "[I" host ∈ kz_NT := Or.inl wt_846
theorem ln_Checker_84 : qz_ln "StackAssembler$Checker" 84 yd_Checker_check := Or.inl wt_842
theorem fl_Checker_70 : qz_fl "StackAssembler$Checker" 70 4 5 := ⟨_, rfl, by decide, Or.inl wt_95⟩
theorem fl_Checker_73 : qz_fl "StackAssembler$Checker" 73 4 4 := ⟨_, rfl, by decide, Or.inl wt_89⟩
theorem fl_Checker_76 : qz_fl "StackAssembler$Checker" 76 6 1 := ⟨_, rfl, by decide, Or.inl wt_123⟩
theorem fl_Checker_80 : qz_fl "StackAssembler$Checker" 80 6 2 := ⟨_, rfl, by decide, Or.inl wt_129⟩
theorem fp_Checker_55_Checker_checkFunction : qz_fp yd_Checker_checkFunction 55 1 4 := ⟨_, rfl, by decide, Or.inl ⟨rfl, Or.inl wt_297⟩⟩
theorem fp_Checker_58_Checker_checkFunction : qz_fp yd_Checker_checkFunction 58 1 5 := ⟨_, rfl, by decide, Or.inl ⟨rfl, Or.inl wt_298⟩⟩
theorem ln_Checker_48 : qz_ln "StackAssembler$Checker" 48 yd_Checker_checkFunction := Or.inl wt_834
theorem fl_Checker_40 : qz_fl "StackAssembler$Checker" 40 6 3 := ⟨_, rfl, by decide, Or.inl wt_135⟩
theorem fl_Checker_52 : qz_fl "StackAssembler$Checker" 52 1 7 := ⟨_, rfl, by decide, Or.inl wt_300⟩
theorem fp_Checker_21_Checker_accepts : qz_fp yd_Checker_accepts 21 1 2 := ⟨_, rfl, by decide, Or.inl ⟨rfl, Or.inl wt_295⟩⟩
theorem fp_Checker_31_Checker_accepts : qz_fp yd_Checker_accepts 31 1 3 := ⟨_, rfl, by decide, Or.inl ⟨rfl, Or.inl wt_296⟩⟩
theorem fp_Checker_36_Checker_accepts : qz_fp yd_Checker_accepts 36 1 6 := ⟨_, rfl, by decide, Or.inl ⟨rfl, Or.inl wt_299⟩⟩
theorem fp_Checker_52_Checker_accepts : qz_fp yd_Checker_accepts 52 1 7 := ⟨_, rfl, by decide, Or.inl ⟨rfl, Or.inl wt_300⟩⟩
theorem ln_SA_75 : qz_ln "StackAssembler" 75 yd_Reader_read := Or.inl wt_526
theorem ln_SA_85 : qz_ln "StackAssembler" 85 yd_Checker_accepts := Or.inl wt_830
theorem fl_SA_107 : qz_fl "StackAssembler" 107 6 3 := ⟨_, rfl, by decide, Or.inl wt_138⟩
theorem fl_SA_79 : qz_fl "StackAssembler" 79 9 9 := ⟨_, rfl, by decide, Or.inl wt_227⟩
theorem fl_SA_82 : qz_fl "StackAssembler" 82 0 8 := ⟨_, rfl, by decide, Or.inl wt_355⟩
theorem fl_SA_89 : qz_fl "StackAssembler" 89 1 7 := ⟨_, rfl, by decide, Or.inl wt_301⟩
theorem fp_SA_22_SA_assemble : qz_fp yd_SA_assemble 22 0 6 := ⟨_, rfl, by decide, Or.inl ⟨rfl, Or.inl wt_353⟩⟩
theorem fp_SA_26_SA_assemble : qz_fp yd_SA_assemble 26 0 7 := ⟨_, rfl, by decide, Or.inl ⟨rfl, Or.inl wt_354⟩⟩
theorem fp_SA_82_SA_assemble : qz_fp yd_SA_assemble 82 0 8 := ⟨_, rfl, by decide, Or.inl ⟨rfl, Or.inl wt_355⟩⟩
theorem fl_Encoder_19 : qz_fl "StackAssembler$Encoder" 19 2 2 := ⟨_, rfl, by decide, Or.inl wt_327⟩
theorem fp_Encoder_19_Encoder_add : qz_fp yd_Encoder_add 19 2 2 := ⟨_, rfl, by decide, Or.inl ⟨rfl, Or.inl wt_327⟩⟩
theorem ln_Encoder_62 : qz_ln "StackAssembler$Encoder" 62 yd_Function_isCalledLike := Or.inl wt_421
theorem fl_Encoder_30 : qz_fl "StackAssembler$Encoder" 30 6 3 := ⟨_, rfl, by decide, Or.inl wt_137⟩
theorem fl_Encoder_51 : qz_fl "StackAssembler$Encoder" 51 6 0 := ⟨_, rfl, by decide, Or.inl wt_120⟩
theorem ln_Encoder_26 : qz_ln "StackAssembler$Encoder" 26 yd_Encoder_add := Or.inl wt_409
theorem wc_Encoder_128 : Cond.constantLong "StackAssembler$Encoder" 128 (Int64.ofInt 127) ∈ kz_TT := by
  rw [show Int64.ofInt 127 = (127 : Int64) from by decide]
  exact wt_429
theorem ln_Encoder_47 : qz_ln "StackAssembler$Encoder" 47 yd_Encoder_addUnsigned := Or.inl wt_425
theorem ln_Encoder_74 : qz_ln "StackAssembler$Encoder" 74 yd_Encoder_addType := Or.inl wt_434
theorem fl_Encoder_68 : qz_fl "StackAssembler$Encoder" 68 4 1 := ⟨_, rfl, by decide, Or.inl wt_75⟩
theorem fl_Encoder_71 : qz_fl "StackAssembler$Encoder" 71 4 0 := ⟨_, rfl, by decide, Or.inl wt_70⟩
theorem fl_Encoder_77 : qz_fl "StackAssembler$Encoder" 77 4 3 := ⟨_, rfl, by decide, Or.inl wt_85⟩
theorem fp_Encoder_19_Encoder_putSizeAhead : qz_fp yd_Encoder_putSizeAhead 19 2 2 := ⟨_, rfl, by decide, Or.inl ⟨rfl, Or.inl wt_327⟩⟩
theorem ln_Encoder_43 : qz_ln "StackAssembler$Encoder" 43 yd_Encoder_numberSignatures := Or.inl wt_417
theorem ln_Encoder_55 : qz_ln "StackAssembler$Encoder" 55 yd_Encoder_addSignature := Or.inl wt_430
theorem ln_Encoder_59 : qz_ln "StackAssembler$Encoder" 59 yd_Encoder_putSizeAhead := Or.inl wt_438
theorem ln_Encoder_114 : qz_ln "StackAssembler$Encoder" 114 yd_Function_hasSlot := Or.inl wt_458
theorem ln_Encoder_118 : qz_ln "StackAssembler$Encoder" 118 yd_Encoder_endsRun := Or.inl wt_463
theorem wc_Encoder_130 : Cond.constantLong "StackAssembler$Encoder" 130 (Int64.ofInt (-1)) ∈ kz_TT := by
  rw [show Int64.ofInt (-1) = ((-1) : Int64) from by decide]
  exact wt_474
theorem ln_Encoder_125 : qz_ln "StackAssembler$Encoder" 125 yd_Encoder_addSigned := Or.inl wt_470
theorem fl_Encoder_122 : qz_fl "StackAssembler$Encoder" 122 7 2 := ⟨_, rfl, by decide, Or.inl wt_1702⟩
theorem ln_Encoder_106 : qz_ln "StackAssembler$Encoder" 106 yd_Encoder_addOperand := Or.inl wt_466
theorem ln_Encoder_84 : qz_ln "StackAssembler$Encoder" 84 yd_Encoder_addRuns := Or.inl wt_454
theorem fl_Encoder_102 : qz_fl "StackAssembler$Encoder" 102 6 2 := ⟨_, rfl, by decide, Or.inl wt_131⟩
theorem fl_Encoder_87 : qz_fl "StackAssembler$Encoder" 87 4 5 := ⟨_, rfl, by decide, Or.inl wt_98⟩
theorem fl_Encoder_90 : qz_fl "StackAssembler$Encoder" 90 4 4 := ⟨_, rfl, by decide, Or.inl wt_92⟩
theorem fl_Encoder_93 : qz_fl "StackAssembler$Encoder" 93 6 1 := ⟨_, rfl, by decide, Or.inl wt_125⟩
theorem fl_Encoder_97 : qz_fl "StackAssembler$Encoder" 97 7 1 := ⟨_, rfl, by decide, Or.inl wt_1701⟩
theorem sl_Encoder_110 : Cond.fieldLink "StackAssembler$Encoder" 110 "StackAssembler$Op" "END" "LStackAssembler$Op;" ∈ kz_TT ∨ ∃ host, Cond.fieldLinkNest "StackAssembler$Encoder" 110 "StackAssembler$Op" "END" "LStackAssembler$Op;" host ∈ kz_NT := Or.inl wt_475
theorem ln_Encoder_80 : qz_ln "StackAssembler$Encoder" 80 yd_Encoder_addBody := Or.inl wt_450
theorem ln_Encoder_33 : qz_ln "StackAssembler$Encoder" 33 yd_Encoder_addSignatures := Or.inl wt_413
theorem ln_Encoder_37 : qz_ln "StackAssembler$Encoder" 37 yd_Encoder_addSignatureNumbers := Or.inl wt_442
theorem ln_Encoder_40 : qz_ln "StackAssembler$Encoder" 40 yd_Encoder_addBodies := Or.inl wt_446
theorem fp_Encoder_19_Encoder_write : qz_fp yd_Encoder_write 19 2 2 := ⟨_, rfl, by decide, Or.inl ⟨rfl, Or.inl wt_327⟩⟩
theorem sz_Encoder_HEADER : ("StackAssembler$Encoder", "HEADER", "[I", 50, ((-32) : Int)) ∈ kz_st := List.mem_of_getElem? (i := 31) rfl
theorem sl_Encoder_23 : Cond.fieldLink "StackAssembler$Encoder" 23 "StackAssembler$Encoder" "HEADER" "[I" ∈ kz_TT ∨ ∃ host, Cond.fieldLinkNest "StackAssembler$Encoder" 23 "StackAssembler$Encoder" "HEADER" "[I" host ∈ kz_NT := Or.inl wt_407
theorem ln_SA_110 : qz_ln "StackAssembler" 110 yd_Encoder_write := Or.inl wt_403
theorem fl_SA_113 : qz_fl "StackAssembler" 113 2 2 := ⟨_, rfl, by decide, Or.inl wt_328⟩
theorem ln_SA_114 : qz_ln "StackAssembler" 114 yd_Encoder_at := Or.inl wt_481
theorem ln_Text_19 : qz_ln "StackAssembler$Text" 19 yd_String_length := Or.inl wt_1034
theorem ln_Text_24 : qz_ln "StackAssembler$Text" 24 yd_String_charAt := Or.inl wt_1035
theorem ln_Printer_23 : qz_ln "StackAssembler$Printer" 23 yd_Text_addAll := Or.inl wt_1030
theorem ss_Printer_100 : ("StackAssembler$Printer", 100, "i32", ((-45) : Int)) ∈ kz_ss := List.mem_of_getElem? (i := 13) rfl
theorem ss_Printer_102 : ("StackAssembler$Printer", 102, "i64", ((-47) : Int)) ∈ kz_ss := List.mem_of_getElem? (i := 14) rfl
theorem ln_Printer_40 : qz_ln "StackAssembler$Printer" 40 yd_Text_add := Or.inl wt_1047
theorem ln_Printer_87 : qz_ln "StackAssembler$Printer" 87 yd_Function_hasSlot := Or.inl wt_1046
theorem ln_Printer_95 : qz_ln "StackAssembler$Printer" 95 yd_Printer_writeType := Or.inl wt_1048
theorem fl_Printer_91 : qz_fl "StackAssembler$Printer" 91 4 0 := ⟨_, rfl, by decide, Or.inl wt_69⟩
theorem ss_Printer_98 : ("StackAssembler$Printer", 98, "(result ", ((-61) : Int)) ∈ kz_ss := List.mem_of_getElem? (i := 15) rfl
theorem wc_Text_32 : Cond.constantLong "StackAssembler$Text" 32 (Int64.ofInt 10) ∈ kz_TT := by
  rw [show Int64.ofInt 10 = (10 : Int64) from by decide]
  exact wt_1069
theorem wc_Text_34 : Cond.constantLong "StackAssembler$Text" 34 (Int64.ofInt 48) ∈ kz_TT := by
  rw [show Int64.ofInt 48 = (48 : Int64) from by decide]
  exact wt_1070
theorem ma_Text_36 : Cond.methodLink "StackAssembler$Text" 36 Lib.MathLoose.abs_long.x ∈ kz_TT ∧ Cond.static Lib.MathLoose.abs_long.x ∈ kz_TT ∧ Cond.initialized "java/lang/Math" ∈ kz_TT ∧ Cond.code Lib.MathLoose.abs_long.x Lib.MathLoose.abs_long.code 2 (some .long) ∈ kz_TT := ⟨wt_1071, wt_1072, wt_11, wt_1073⟩
theorem ln_Printer_110 : qz_ln "StackAssembler$Printer" 110 yd_Op_awaitsOperand := Or.inl wt_1064
theorem ln_Printer_114 : qz_ln "StackAssembler$Printer" 114 yd_Text_addNumber := Or.inl wt_1065
theorem ln_Printer_118 : qz_ln "StackAssembler$Printer" 118 yd_Op_opensBlock := Or.inl wt_1074
theorem ln_Printer_60 : qz_ln "StackAssembler$Printer" 60 yd_Printer_writeResult := Or.inl wt_1054
theorem fl_Printer_104 : qz_fl "StackAssembler$Printer" 104 7 0 := ⟨_, rfl, by decide, Or.inl wt_1703⟩
theorem ln_Printer_53 : qz_ln "StackAssembler$Printer" 53 yd_Printer_writeSlots := Or.inl wt_1042
theorem ln_Printer_83 : qz_ln "StackAssembler$Printer" 83 yd_Printer_writeInstruction := Or.inl wt_1060
theorem fl_Printer_48 : qz_fl "StackAssembler$Printer" 48 4 1 := ⟨_, rfl, by decide, Or.inl wt_74⟩
theorem fl_Printer_57 : qz_fl "StackAssembler$Printer" 57 4 3 := ⟨_, rfl, by decide, Or.inl wt_84⟩
theorem fl_Printer_66 : qz_fl "StackAssembler$Printer" 66 4 2 := ⟨_, rfl, by decide, Or.inl wt_79⟩
theorem fl_Printer_69 : qz_fl "StackAssembler$Printer" 69 4 5 := ⟨_, rfl, by decide, Or.inl wt_96⟩
theorem fl_Printer_72 : qz_fl "StackAssembler$Printer" 72 4 4 := ⟨_, rfl, by decide, Or.inl wt_90⟩
theorem fl_Printer_75 : qz_fl "StackAssembler$Printer" 75 6 1 := ⟨_, rfl, by decide, Or.inl wt_124⟩
theorem fl_Printer_79 : qz_fl "StackAssembler$Printer" 79 6 2 := ⟨_, rfl, by decide, Or.inl wt_130⟩
theorem ss_Printer_44 : ("StackAssembler$Printer", 44, "(func", ((-57) : Int)) ∈ kz_ss := List.mem_of_getElem? (i := 11) rfl
theorem ss_Printer_46 : ("StackAssembler$Printer", 46, "(param", ((-59) : Int)) ∈ kz_ss := List.mem_of_getElem? (i := 12) rfl
theorem ss_Printer_64 : ("StackAssembler$Printer", 64, "(local", ((-63) : Int)) ∈ kz_ss := List.mem_of_getElem? (i := 16) rfl
theorem ln_Printer_36 : qz_ln "StackAssembler$Printer" 36 yd_Printer_writeFunction := Or.inl wt_1036
theorem fl_Printer_15 : qz_fl "StackAssembler$Printer" 15 11 1 := ⟨_, rfl, by decide, Or.inl wt_44⟩
theorem fl_Printer_27 : qz_fl "StackAssembler$Printer" 27 6 3 := ⟨_, rfl, by decide, Or.inl wt_136⟩
theorem fl_Printer_32 : qz_fl "StackAssembler$Printer" 32 6 0 := ⟨_, rfl, by decide, Or.inl wt_119⟩
theorem fp_Printer_15_Printer_write : qz_fp yd_Printer_write 15 11 1 := ⟨_, rfl, by decide, Or.inl ⟨rfl, Or.inl wt_44⟩⟩
theorem fp_Printer_9_Printer_write : qz_fp yd_Printer_write 9 8 0 := ⟨_, rfl, by decide, Or.inl ⟨rfl, Or.inl wt_343⟩⟩
theorem ss_Printer_21 : ("StackAssembler$Printer", 21, "(module", ((-55) : Int)) ∈ kz_ss := List.mem_of_getElem? (i := 10) rfl
theorem ln_SA_117 : qz_ln "StackAssembler" 117 yd_Printer_write := Or.inl wt_1025
theorem fp_SA_10_SA_print : qz_fp yd_SA_print 10 0 4 := ⟨_, rfl, by decide, Or.inl ⟨rfl, Or.inl wt_351⟩⟩
theorem fp_SA_16_SA_print : qz_fp yd_SA_print 16 0 5 := ⟨_, rfl, by decide, Or.inl ⟨rfl, Or.inl wt_352⟩⟩
theorem ln_SA_122 : qz_ln "StackAssembler" 122 yd_Module_hasFunction := Or.inl wt_497
theorem ln_SA_143 : qz_ln "StackAssembler" 143 yd_Function_hasSlot := Or.inl wt_502
theorem fl_SA_125 : qz_fl "StackAssembler" 125 6 0 := ⟨_, rfl, by decide, Or.inl wt_121⟩
theorem fl_SA_129 : qz_fl "StackAssembler" 129 4 1 := ⟨_, rfl, by decide, Or.inl wt_76⟩
theorem fl_SA_134 : qz_fl "StackAssembler" 134 4 2 := ⟨_, rfl, by decide, Or.inl wt_80⟩
theorem fl_SA_137 : qz_fl "StackAssembler" 137 4 3 := ⟨_, rfl, by decide, Or.inl wt_86⟩
theorem fl_SA_140 : qz_fl "StackAssembler" 140 4 5 := ⟨_, rfl, by decide, Or.inl wt_99⟩
theorem fl_SA_146 : qz_fl "StackAssembler" 146 4 0 := ⟨_, rfl, by decide, Or.inl wt_71⟩
theorem ln_Module_41 : qz_ln "StackAssembler$Module" 41 yd_Module_hasFunction := Or.inl wt_511
theorem fl_Module_48 : qz_fl "StackAssembler$Module" 48 4 4 := ⟨_, rfl, by decide, Or.inl wt_91⟩
theorem ln_SA_150 : qz_ln "StackAssembler" 150 yd_Module_hasInstruction := Or.inl wt_507
theorem fl_SA_154 : qz_fl "StackAssembler" 154 6 1 := ⟨_, rfl, by decide, Or.inl wt_126⟩
theorem fl_SA_158 : qz_fl "StackAssembler" 158 4 4 := ⟨_, rfl, by decide, Or.inl wt_93⟩
theorem fl_SA_161 : qz_fl "StackAssembler" 161 7 1 := ⟨_, rfl, by decide, Or.inl wt_1704⟩
theorem fl_SA_166 : qz_fl "StackAssembler" 166 6 2 := ⟨_, rfl, by decide, Or.inl wt_132⟩
theorem wa_boolean : Cond.arrayClass (newarray.typeOf .boolean) ∈ kz_TT := wt_1310
theorem fl_Md_100 : qz_fl "StackAssemblerModel" 100 12 10 := ⟨_, rfl, by decide, Or.inl wt_1127⟩
theorem fl_Md_103 : qz_fl "StackAssemblerModel" 103 12 11 := ⟨_, rfl, by decide, Or.inl wt_1128⟩
theorem fl_Md_106 : qz_fl "StackAssemblerModel" 106 12 12 := ⟨_, rfl, by decide, Or.inl wt_1129⟩
theorem fl_Md_109 : qz_fl "StackAssemblerModel" 109 12 13 := ⟨_, rfl, by decide, Or.inl wt_1130⟩
theorem fl_Md_112 : qz_fl "StackAssemblerModel" 112 12 14 := ⟨_, rfl, by decide, Or.inl wt_1131⟩
theorem fl_Md_115 : qz_fl "StackAssemblerModel" 115 12 16 := ⟨_, rfl, by decide, Or.inl wt_1133⟩
theorem fl_Md_118 : qz_fl "StackAssemblerModel" 118 12 17 := ⟨_, rfl, by decide, Or.inl wt_1134⟩
theorem fl_Md_121 : qz_fl "StackAssemblerModel" 121 12 18 := ⟨_, rfl, by decide, Or.inl wt_1135⟩
theorem fl_Md_124 : qz_fl "StackAssemblerModel" 124 12 19 := ⟨_, rfl, by decide, Or.inl wt_1136⟩
theorem fl_Md_127 : qz_fl "StackAssemblerModel" 127 12 20 := ⟨_, rfl, by decide, Or.inl wt_1137⟩
theorem fl_Md_130 : qz_fl "StackAssemblerModel" 130 12 21 := ⟨_, rfl, by decide, Or.inl wt_1138⟩
theorem fl_Md_133 : qz_fl "StackAssemblerModel" 133 12 22 := ⟨_, rfl, by decide, Or.inl wt_1139⟩
theorem fl_Md_136 : qz_fl "StackAssemblerModel" 136 12 24 := ⟨_, rfl, by decide, Or.inl wt_1141⟩
theorem fl_Md_139 : qz_fl "StackAssemblerModel" 139 12 25 := ⟨_, rfl, by decide, Or.inl wt_1142⟩
theorem fl_Md_142 : qz_fl "StackAssemblerModel" 142 12 26 := ⟨_, rfl, by decide, Or.inl wt_1143⟩
theorem fl_Md_145 : qz_fl "StackAssemblerModel" 145 12 27 := ⟨_, rfl, by decide, Or.inl wt_1144⟩
theorem fl_Md_148 : qz_fl "StackAssemblerModel" 148 12 29 := ⟨_, rfl, by decide, Or.inl wt_1146⟩
theorem fl_Md_151 : qz_fl "StackAssemblerModel" 151 12 30 := ⟨_, rfl, by decide, Or.inl wt_1147⟩
theorem fl_Md_154 : qz_fl "StackAssemblerModel" 154 12 31 := ⟨_, rfl, by decide, Or.inl wt_1148⟩
theorem fl_Md_157 : qz_fl "StackAssemblerModel" 157 12 40 := ⟨_, rfl, by decide, Or.inl wt_1157⟩
theorem fl_Md_160 : qz_fl "StackAssemblerModel" 160 12 41 := ⟨_, rfl, by decide, Or.inl wt_1158⟩
theorem fl_Md_164 : qz_fl "StackAssemblerModel" 164 12 42 := ⟨_, rfl, by decide, Or.inl wt_1159⟩
theorem fl_Md_167 : qz_fl "StackAssemblerModel" 167 12 43 := ⟨_, rfl, by decide, Or.inl wt_1160⟩
theorem fl_Md_170 : qz_fl "StackAssemblerModel" 170 12 44 := ⟨_, rfl, by decide, Or.inl wt_1161⟩
theorem fl_Md_173 : qz_fl "StackAssemblerModel" 173 12 45 := ⟨_, rfl, by decide, Or.inl wt_1162⟩
theorem fl_Md_176 : qz_fl "StackAssemblerModel" 176 12 46 := ⟨_, rfl, by decide, Or.inl wt_1163⟩
theorem fl_Md_179 : qz_fl "StackAssemblerModel" 179 12 50 := ⟨_, rfl, by decide, Or.inl wt_1167⟩
theorem fl_Md_182 : qz_fl "StackAssemblerModel" 182 12 52 := ⟨_, rfl, by decide, Or.inl wt_1169⟩
theorem fl_Md_185 : qz_fl "StackAssemblerModel" 185 12 53 := ⟨_, rfl, by decide, Or.inl wt_1170⟩
theorem fl_Md_188 : qz_fl "StackAssemblerModel" 188 12 54 := ⟨_, rfl, by decide, Or.inl wt_1171⟩
theorem fl_Md_191 : qz_fl "StackAssemblerModel" 191 12 55 := ⟨_, rfl, by decide, Or.inl wt_1172⟩
theorem fl_Md_194 : qz_fl "StackAssemblerModel" 194 12 56 := ⟨_, rfl, by decide, Or.inl wt_1173⟩
theorem fl_Md_197 : qz_fl "StackAssemblerModel" 197 12 59 := ⟨_, rfl, by decide, Or.inl wt_1176⟩
theorem fl_Md_200 : qz_fl "StackAssemblerModel" 200 12 61 := ⟨_, rfl, by decide, Or.inl wt_1178⟩
theorem fl_Md_203 : qz_fl "StackAssemblerModel" 203 12 63 := ⟨_, rfl, by decide, Or.inl wt_1180⟩
theorem fl_Md_67 : qz_fl "StackAssemblerModel" 67 12 0 := ⟨_, rfl, by decide, Or.inl wt_1117⟩
theorem fl_Md_83 : qz_fl "StackAssemblerModel" 83 12 1 := ⟨_, rfl, by decide, Or.inl wt_1118⟩
theorem fl_Md_86 : qz_fl "StackAssemblerModel" 86 12 2 := ⟨_, rfl, by decide, Or.inl wt_1119⟩
theorem fl_Md_90 : qz_fl "StackAssemblerModel" 90 12 6 := ⟨_, rfl, by decide, Or.inl wt_1123⟩
theorem fl_Md_94 : qz_fl "StackAssemblerModel" 94 12 8 := ⟨_, rfl, by decide, Or.inl wt_1125⟩
theorem fl_Md_97 : qz_fl "StackAssemblerModel" 97 12 9 := ⟨_, rfl, by decide, Or.inl wt_1126⟩
theorem wc_Md_11 : Cond.constantLong "StackAssemblerModel" 11 (Int64.ofInt 422726034283) ∈ kz_TT := by
  rw [show Int64.ofInt 422726034283 = (422726034283 : Int64) from by decide]
  exact wt_1084
theorem wc_Md_13 : Cond.constantLong "StackAssemblerModel" 13 (Int64.ofInt 1819242352) ∈ kz_TT := by
  rw [show Int64.ofInt 1819242352 = (1819242352 : Int64) from by decide]
  exact wt_1085
theorem wc_Md_15 : Cond.constantLong "StackAssemblerModel" 15 (Int64.ofInt 26982) ∈ kz_TT := by
  rw [show Int64.ofInt 26982 = (26982 : Int64) from by decide]
  exact wt_1086
theorem wc_Md_17 : Cond.constantLong "StackAssemblerModel" 17 (Int64.ofInt 1701606245) ∈ kz_TT := by
  rw [show Int64.ofInt 1701606245 = (1701606245 : Int64) from by decide]
  exact wt_1087
theorem wc_Md_19 : Cond.constantLong "StackAssemblerModel" 19 (Int64.ofInt 6647396) ∈ kz_TT := by
  rw [show Int64.ofInt 6647396 = (6647396 : Int64) from by decide]
  exact wt_1088
theorem wc_Md_21 : Cond.constantLong "StackAssemblerModel" 21 (Int64.ofInt 25202) ∈ kz_TT := by
  rw [show Int64.ofInt 25202 = (25202 : Int64) from by decide]
  exact wt_1089
theorem wc_Md_23 : Cond.constantLong "StackAssemblerModel" 23 (Int64.ofInt 422825650534) ∈ kz_TT := by
  rw [show Int64.ofInt 422825650534 = (422825650534 : Int64) from by decide]
  exact wt_1090
theorem wc_Md_25 : Cond.constantLong "StackAssemblerModel" 25 (Int64.ofInt 125780071117422) ∈ kz_TT := by
  rw [show Int64.ofInt 125780071117422 = (125780071117422 : Int64) from by decide]
  exact wt_1091
theorem wc_Md_27 : Cond.constantLong "StackAssemblerModel" 27 (Int64.ofInt 1667329132) ∈ kz_TT := by
  rw [show Int64.ofInt 1667329132 = (1667329132 : Int64) from by decide]
  exact wt_1092
theorem wc_Md_29 : Cond.constantLong "StackAssemblerModel" 29 (Int64.ofInt 1685221232) ∈ kz_TT := by
  rw [show Int64.ofInt 1685221232 = (1685221232 : Int64) from by decide]
  exact wt_1093
theorem wc_Md_31 : Cond.constantLong "StackAssemblerModel" 31 (Int64.ofInt 126879447475060) ∈ kz_TT := by
  rw [show Int64.ofInt 126879447475060 = (126879447475060 : Int64) from by decide]
  exact wt_1094
theorem wc_Md_33 : Cond.constantLong "StackAssemblerModel" 33 (Int64.ofInt 7813573148589057893) ∈ kz_TT := by
  rw [show Int64.ofInt 7813573148589057893 = (7813573148589057893 : Int64) from by decide]
  exact wt_1095
theorem wc_Md_35 : Cond.constantLong "StackAssemblerModel" 35 (Int64.ofInt 7813573148589060965) ∈ kz_TT := by
  rw [show Int64.ofInt 7813573148589060965 = (7813573148589060965 : Int64) from by decide]
  exact wt_1096
theorem wc_Md_37 : Cond.constantLong "StackAssemblerModel" 37 (Int64.ofInt 7813573148589061221) ∈ kz_TT := by
  rw [show Int64.ofInt 7813573148589061221 = (7813573148589061221 : Int64) from by decide]
  exact wt_1097
theorem wc_Md_39 : Cond.constantLong "StackAssemblerModel" 39 (Int64.ofInt 7580457772612808307) ∈ kz_TT := by
  rw [show Int64.ofInt 7580457772612808307 = (7580457772612808307 : Int64) from by decide]
  exact wt_1098
theorem wc_Md_41 : Cond.constantLong "StackAssemblerModel" 41 (Int64.ofInt 7581304396566195827) ∈ kz_TT := by
  rw [show Int64.ofInt 7581304396566195827 = (7581304396566195827 : Int64) from by decide]
  exact wt_1099
theorem wc_Md_43 : Cond.constantLong "StackAssemblerModel" 43 (Int64.ofInt 29611163174400378) ∈ kz_TT := by
  rw [show Int64.ofInt 29611163174400378 = (29611163174400378 : Int64) from by decide]
  exact wt_1100
theorem wc_Md_45 : Cond.constantLong "StackAssemblerModel" 45 (Int64.ofInt 115668606150001) ∈ kz_TT := by
  rw [show Int64.ofInt 115668606150001 = (115668606150001 : Int64) from by decide]
  exact wt_1101
theorem wc_Md_47 : Cond.constantLong "StackAssemblerModel" 47 (Int64.ofInt 7580457772764127091) ∈ kz_TT := by
  rw [show Int64.ofInt 7580457772764127091 = (7580457772764127091 : Int64) from by decide]
  exact wt_1102
theorem wc_Md_49 : Cond.constantLong "StackAssemblerModel" 49 (Int64.ofInt 29611163174134884) ∈ kz_TT := by
  rw [show Int64.ofInt 29611163174134884 = (29611163174134884 : Int64) from by decide]
  exact wt_1103
theorem wc_Md_51 : Cond.constantLong "StackAssemblerModel" 51 (Int64.ofInt 29611163175318882) ∈ kz_TT := by
  rw [show Int64.ofInt 29611163175318882 = (29611163175318882 : Int64) from by decide]
  exact wt_1104
theorem wc_Md_53 : Cond.constantLong "StackAssemblerModel" 53 (Int64.ofInt 29611163174925676) ∈ kz_TT := by
  rw [show Int64.ofInt 29611163174925676 = (29611163174925676 : Int64) from by decide]
  exact wt_1105
theorem wc_Md_55 : Cond.constantLong "StackAssemblerModel" 55 (Int64.ofInt 29614470299218298) ∈ kz_TT := by
  rw [show Int64.ofInt 29614470299218298 = (29614470299218298 : Int64) from by decide]
  exact wt_1106
theorem wc_Md_57 : Cond.constantLong "StackAssemblerModel" 57 (Int64.ofInt 115681524606321) ∈ kz_TT := by
  rw [show Int64.ofInt 115681524606321 = (115681524606321 : Int64) from by decide]
  exact wt_1107
theorem wc_Md_59 : Cond.constantLong "StackAssemblerModel" 59 (Int64.ofInt 29614470298952804) ∈ kz_TT := by
  rw [show Int64.ofInt 29614470298952804 = (29614470298952804 : Int64) from by decide]
  exact wt_1108
theorem wc_Md_61 : Cond.constantLong "StackAssemblerModel" 61 (Int64.ofInt 29614470299743596) ∈ kz_TT := by
  rw [show Int64.ofInt 29614470299743596 = (29614470299743596 : Int64) from by decide]
  exact wt_1109
theorem wc_Md_63 : Cond.constantLong "StackAssemblerModel" 63 (Int64.ofInt 7580457772948545904) ∈ kz_TT := by
  rw [show Int64.ofInt 7580457772948545904 = (7580457772948545904 : Int64) from by decide]
  exact wt_1110
theorem wc_Md_65 : Cond.constantLong "StackAssemblerModel" 65 (Int64.ofInt 7581304396600341605) ∈ kz_TT := by
  rw [show Int64.ofInt 7581304396600341605 = (7581304396600341605 : Int64) from by decide]
  exact wt_1111
theorem wc_Md_7 : Cond.constantLong "StackAssemblerModel" 7 (Int64.ofInt 8461826529626908769) ∈ kz_TT := by
  rw [show Int64.ofInt 8461826529626908769 = (8461826529626908769 : Int64) from by decide]
  exact wt_1082
theorem wc_Md_73 : Cond.constantLong "StackAssemblerModel" 73 (Int64.ofInt 6450277) ∈ kz_TT := by
  rw [show Int64.ofInt 6450277 = (6450277 : Int64) from by decide]
  exact wt_1112
theorem wc_Md_75 : Cond.constantLong "StackAssemblerModel" 75 (Int64.ofInt 116) ∈ kz_TT := by
  rw [show Int64.ofInt 116 = (116 : Int64) from by decide]
  exact wt_1113
theorem wc_Md_77 : Cond.constantLong "StackAssemblerModel" 77 (Int64.ofInt 101) ∈ kz_TT := by
  rw [show Int64.ofInt 101 = (101 : Int64) from by decide]
  exact wt_1114
theorem wc_Md_79 : Cond.constantLong "StackAssemblerModel" 79 (Int64.ofInt 1600730676) ∈ kz_TT := by
  rw [show Int64.ofInt 1600730676 = (1600730676 : Int64) from by decide]
  exact wt_1115
theorem wc_Md_81 : Cond.constantLong "StackAssemblerModel" 81 (Int64.ofInt 7954587747278282611) ∈ kz_TT := by
  rw [show Int64.ofInt 7954587747278282611 = (7954587747278282611 : Int64) from by decide]
  exact wt_1116
theorem wc_Md_9 : Cond.constantLong "StackAssemblerModel" 9 (Int64.ofInt 7237488) ∈ kz_TT := by
  rw [show Int64.ofInt 7237488 = (7237488 : Int64) from by decide]
  exact wt_1083
theorem oi_Md_1 : Cond.methodLink "StackAssemblerModel" 1 Lib.objectInit ∈ kz_TT ∧ Cond.instanceMethod Lib.objectInit ∈ kz_TT ∧ Cond.code Lib.objectInit ⟨#[0xb1]⟩ 1 none ∈ kz_TT := ⟨wt_1081, wt_34, wt_35⟩
theorem fp_Md_100_Md_init : qz_fp yd_Md_init 100 12 10 := ⟨_, rfl, by decide, Or.inr ⟨rfl, rfl, rfl, wt_1127⟩⟩
theorem fp_Md_103_Md_init : qz_fp yd_Md_init 103 12 11 := ⟨_, rfl, by decide, Or.inr ⟨rfl, rfl, rfl, wt_1128⟩⟩
theorem fp_Md_106_Md_init : qz_fp yd_Md_init 106 12 12 := ⟨_, rfl, by decide, Or.inr ⟨rfl, rfl, rfl, wt_1129⟩⟩
theorem fp_Md_109_Md_init : qz_fp yd_Md_init 109 12 13 := ⟨_, rfl, by decide, Or.inr ⟨rfl, rfl, rfl, wt_1130⟩⟩
theorem fp_Md_112_Md_init : qz_fp yd_Md_init 112 12 14 := ⟨_, rfl, by decide, Or.inr ⟨rfl, rfl, rfl, wt_1131⟩⟩
theorem fp_Md_115_Md_init : qz_fp yd_Md_init 115 12 16 := ⟨_, rfl, by decide, Or.inr ⟨rfl, rfl, rfl, wt_1133⟩⟩
theorem fp_Md_118_Md_init : qz_fp yd_Md_init 118 12 17 := ⟨_, rfl, by decide, Or.inr ⟨rfl, rfl, rfl, wt_1134⟩⟩
theorem fp_Md_121_Md_init : qz_fp yd_Md_init 121 12 18 := ⟨_, rfl, by decide, Or.inr ⟨rfl, rfl, rfl, wt_1135⟩⟩
theorem fp_Md_124_Md_init : qz_fp yd_Md_init 124 12 19 := ⟨_, rfl, by decide, Or.inr ⟨rfl, rfl, rfl, wt_1136⟩⟩
theorem fp_Md_127_Md_init : qz_fp yd_Md_init 127 12 20 := ⟨_, rfl, by decide, Or.inr ⟨rfl, rfl, rfl, wt_1137⟩⟩
theorem fp_Md_130_Md_init : qz_fp yd_Md_init 130 12 21 := ⟨_, rfl, by decide, Or.inr ⟨rfl, rfl, rfl, wt_1138⟩⟩
theorem fp_Md_133_Md_init : qz_fp yd_Md_init 133 12 22 := ⟨_, rfl, by decide, Or.inr ⟨rfl, rfl, rfl, wt_1139⟩⟩
theorem fp_Md_136_Md_init : qz_fp yd_Md_init 136 12 24 := ⟨_, rfl, by decide, Or.inr ⟨rfl, rfl, rfl, wt_1141⟩⟩
theorem fp_Md_139_Md_init : qz_fp yd_Md_init 139 12 25 := ⟨_, rfl, by decide, Or.inr ⟨rfl, rfl, rfl, wt_1142⟩⟩
theorem fp_Md_142_Md_init : qz_fp yd_Md_init 142 12 26 := ⟨_, rfl, by decide, Or.inr ⟨rfl, rfl, rfl, wt_1143⟩⟩
theorem fp_Md_145_Md_init : qz_fp yd_Md_init 145 12 27 := ⟨_, rfl, by decide, Or.inr ⟨rfl, rfl, rfl, wt_1144⟩⟩
theorem fp_Md_148_Md_init : qz_fp yd_Md_init 148 12 29 := ⟨_, rfl, by decide, Or.inr ⟨rfl, rfl, rfl, wt_1146⟩⟩
theorem fp_Md_151_Md_init : qz_fp yd_Md_init 151 12 30 := ⟨_, rfl, by decide, Or.inr ⟨rfl, rfl, rfl, wt_1147⟩⟩
theorem fp_Md_154_Md_init : qz_fp yd_Md_init 154 12 31 := ⟨_, rfl, by decide, Or.inr ⟨rfl, rfl, rfl, wt_1148⟩⟩
theorem fp_Md_157_Md_init : qz_fp yd_Md_init 157 12 40 := ⟨_, rfl, by decide, Or.inr ⟨rfl, rfl, rfl, wt_1157⟩⟩
theorem fp_Md_160_Md_init : qz_fp yd_Md_init 160 12 41 := ⟨_, rfl, by decide, Or.inr ⟨rfl, rfl, rfl, wt_1158⟩⟩
theorem fp_Md_164_Md_init : qz_fp yd_Md_init 164 12 42 := ⟨_, rfl, by decide, Or.inr ⟨rfl, rfl, rfl, wt_1159⟩⟩
theorem fp_Md_167_Md_init : qz_fp yd_Md_init 167 12 43 := ⟨_, rfl, by decide, Or.inr ⟨rfl, rfl, rfl, wt_1160⟩⟩
theorem fp_Md_170_Md_init : qz_fp yd_Md_init 170 12 44 := ⟨_, rfl, by decide, Or.inr ⟨rfl, rfl, rfl, wt_1161⟩⟩
theorem fp_Md_173_Md_init : qz_fp yd_Md_init 173 12 45 := ⟨_, rfl, by decide, Or.inr ⟨rfl, rfl, rfl, wt_1162⟩⟩
theorem fp_Md_176_Md_init : qz_fp yd_Md_init 176 12 46 := ⟨_, rfl, by decide, Or.inr ⟨rfl, rfl, rfl, wt_1163⟩⟩
theorem fp_Md_179_Md_init : qz_fp yd_Md_init 179 12 50 := ⟨_, rfl, by decide, Or.inr ⟨rfl, rfl, rfl, wt_1167⟩⟩
theorem fp_Md_182_Md_init : qz_fp yd_Md_init 182 12 52 := ⟨_, rfl, by decide, Or.inr ⟨rfl, rfl, rfl, wt_1169⟩⟩
theorem fp_Md_185_Md_init : qz_fp yd_Md_init 185 12 53 := ⟨_, rfl, by decide, Or.inr ⟨rfl, rfl, rfl, wt_1170⟩⟩
theorem fp_Md_188_Md_init : qz_fp yd_Md_init 188 12 54 := ⟨_, rfl, by decide, Or.inr ⟨rfl, rfl, rfl, wt_1171⟩⟩
theorem fp_Md_191_Md_init : qz_fp yd_Md_init 191 12 55 := ⟨_, rfl, by decide, Or.inr ⟨rfl, rfl, rfl, wt_1172⟩⟩
theorem fp_Md_194_Md_init : qz_fp yd_Md_init 194 12 56 := ⟨_, rfl, by decide, Or.inr ⟨rfl, rfl, rfl, wt_1173⟩⟩
theorem fp_Md_197_Md_init : qz_fp yd_Md_init 197 12 59 := ⟨_, rfl, by decide, Or.inr ⟨rfl, rfl, rfl, wt_1176⟩⟩
theorem fp_Md_200_Md_init : qz_fp yd_Md_init 200 12 61 := ⟨_, rfl, by decide, Or.inr ⟨rfl, rfl, rfl, wt_1178⟩⟩
theorem fp_Md_203_Md_init : qz_fp yd_Md_init 203 12 63 := ⟨_, rfl, by decide, Or.inr ⟨rfl, rfl, rfl, wt_1180⟩⟩
theorem fp_Md_67_Md_init : qz_fp yd_Md_init 67 12 0 := ⟨_, rfl, by decide, Or.inr ⟨rfl, rfl, rfl, wt_1117⟩⟩
theorem fp_Md_83_Md_init : qz_fp yd_Md_init 83 12 1 := ⟨_, rfl, by decide, Or.inr ⟨rfl, rfl, rfl, wt_1118⟩⟩
theorem fp_Md_86_Md_init : qz_fp yd_Md_init 86 12 2 := ⟨_, rfl, by decide, Or.inr ⟨rfl, rfl, rfl, wt_1119⟩⟩
theorem fp_Md_90_Md_init : qz_fp yd_Md_init 90 12 6 := ⟨_, rfl, by decide, Or.inr ⟨rfl, rfl, rfl, wt_1123⟩⟩
theorem fp_Md_94_Md_init : qz_fp yd_Md_init 94 12 8 := ⟨_, rfl, by decide, Or.inr ⟨rfl, rfl, rfl, wt_1125⟩⟩
theorem fp_Md_97_Md_init : qz_fp yd_Md_init 97 12 9 := ⟨_, rfl, by decide, Or.inr ⟨rfl, rfl, rfl, wt_1126⟩⟩
theorem fl_Md_206 : qz_fl "StackAssemblerModel" 206 12 3 := ⟨_, rfl, by decide, Or.inl wt_1120⟩
theorem fp_Md_206_Md_raise : qz_fp yd_Md_raise 206 12 3 := ⟨_, rfl, by decide, Or.inl ⟨rfl, Or.inl wt_1120⟩⟩
theorem fl_Md_210 : qz_fl "StackAssemblerModel" 210 12 5 := ⟨_, rfl, by decide, Or.inl wt_1122⟩
theorem fp_Md_206_Md_type : qz_fp yd_Md_type 206 12 3 := ⟨_, rfl, by decide, Or.inl ⟨rfl, Or.inl wt_1120⟩⟩
theorem fp_Md_210_Md_type : qz_fp yd_Md_type 210 12 5 := ⟨_, rfl, by decide, Or.inl ⟨rfl, Or.inl wt_1122⟩⟩
theorem fp_Md_206_Md_wipe : qz_fp yd_Md_wipe 206 12 3 := ⟨_, rfl, by decide, Or.inl ⟨rfl, Or.inl wt_1120⟩⟩
theorem fp_Md_210_Md_wipe : qz_fp yd_Md_wipe 210 12 5 := ⟨_, rfl, by decide, Or.inl ⟨rfl, Or.inl wt_1122⟩⟩
theorem fp_Md_206_Md_character : qz_fp yd_Md_character 206 12 3 := ⟨_, rfl, by decide, Or.inl ⟨rfl, Or.inl wt_1120⟩⟩
theorem ln_Md_213 : qz_ln "StackAssemblerModel" 213 yd_Md_isDigit := Or.inl wt_1350
theorem ln_Md_220 : qz_ln "StackAssemblerModel" 220 yd_Md_ch := Or.inl wt_1339
theorem fl_Md_217 : qz_fl "StackAssemblerModel" 217 12 32 := ⟨_, rfl, by decide, Or.inl wt_1149⟩
theorem fp_Md_217_Md_comment : qz_fp yd_Md_comment 217 12 32 := ⟨_, rfl, by decide, Or.inl ⟨rfl, Or.inl wt_1149⟩⟩
theorem ln_Md_234 : qz_ln "StackAssemblerModel" 234 yd_Md_isSign := Or.inl wt_1347
theorem fl_Md_224 : qz_fl "StackAssemblerModel" 224 12 34 := ⟨_, rfl, by decide, Or.inl wt_1151⟩
theorem fl_Md_231 : qz_fl "StackAssemblerModel" 231 12 33 := ⟨_, rfl, by decide, Or.inl wt_1150⟩
theorem fl_Md_240 : qz_fl "StackAssemblerModel" 240 12 36 := ⟨_, rfl, by decide, Or.inl wt_1153⟩
theorem fl_Md_244 : qz_fl "StackAssemblerModel" 244 12 37 := ⟨_, rfl, by decide, Or.inl wt_1154⟩
theorem fl_Md_247 : qz_fl "StackAssemblerModel" 247 12 35 := ⟨_, rfl, by decide, Or.inl wt_1152⟩
theorem fp_Md_217_Md_readWord : qz_fp yd_Md_readWord 217 12 32 := ⟨_, rfl, by decide, Or.inl ⟨rfl, Or.inl wt_1149⟩⟩
theorem fp_Md_231_Md_readWord : qz_fp yd_Md_readWord 231 12 33 := ⟨_, rfl, by decide, Or.inl ⟨rfl, Or.inl wt_1150⟩⟩
theorem fp_Md_240_Md_readWord : qz_fp yd_Md_readWord 240 12 36 := ⟨_, rfl, by decide, Or.inl ⟨rfl, Or.inl wt_1153⟩⟩
theorem fp_Md_244_Md_readWord : qz_fp yd_Md_readWord 244 12 37 := ⟨_, rfl, by decide, Or.inl ⟨rfl, Or.inl wt_1154⟩⟩
theorem fp_Md_247_Md_readWord : qz_fp yd_Md_readWord 247 12 35 := ⟨_, rfl, by decide, Or.inl ⟨rfl, Or.inl wt_1152⟩⟩
theorem ln_Md_227 : qz_ln "StackAssemblerModel" 227 yd_Md_comment := Or.inl wt_1343
theorem ln_Md_237 : qz_ln "StackAssemblerModel" 237 yd_Md_readWord := Or.inl wt_1353
theorem fp_Md_217_Md_next : qz_fp yd_Md_next 217 12 32 := ⟨_, rfl, by decide, Or.inl ⟨rfl, Or.inl wt_1149⟩⟩
theorem fp_Md_224_Md_next : qz_fp yd_Md_next 224 12 34 := ⟨_, rfl, by decide, Or.inl ⟨rfl, Or.inl wt_1151⟩⟩
theorem fp_Md_231_Md_next : qz_fp yd_Md_next 231 12 33 := ⟨_, rfl, by decide, Or.inl ⟨rfl, Or.inl wt_1150⟩⟩
theorem fl_Md_250 : qz_fl "StackAssemblerModel" 250 12 38 := ⟨_, rfl, by decide, Or.inl wt_1155⟩
theorem fp_Md_250_Md_fail : qz_fp yd_Md_fail 250 12 38 := ⟨_, rfl, by decide, Or.inl ⟨rfl, Or.inl wt_1155⟩⟩
theorem ln_Md_253 : qz_ln "StackAssemblerModel" 253 yd_Md_fail := Or.inl wt_1361
theorem ln_Md_256 : qz_ln "StackAssemblerModel" 256 yd_Md_next := Or.inl wt_1335
theorem ln_Md_259 : qz_ln "StackAssemblerModel" 259 yd_Md_is := Or.inl wt_1370
theorem fl_Md_263 : qz_fl "StackAssemblerModel" 263 12 47 := ⟨_, rfl, by decide, Or.inl wt_1164⟩
theorem wc_Md_266 : Cond.constantLong "StackAssemblerModel" 266 (Int64.ofInt 1844674407370955161) ∈ kz_TT := by
  rw [show Int64.ofInt 1844674407370955161 = (1844674407370955161 : Int64) from by decide]
  exact wt_1435
theorem wc_Md_268 : Cond.constantLong "StackAssemblerModel" 268 (Int64.ofInt 10) ∈ kz_TT := by
  rw [show Int64.ofInt 10 = (10 : Int64) from by decide]
  exact wt_1436
theorem fp_Md_263_Md_digits : qz_fp yd_Md_digits 263 12 47 := ⟨_, rfl, by decide, Or.inl ⟨rfl, Or.inl wt_1164⟩⟩
theorem ln_Md_275 : qz_ln "StackAssemblerModel" 275 yd_Md_below32 := Or.inl wt_1438
theorem ln_Md_270 : qz_ln "StackAssemblerModel" 270 yd_Md_digits := Or.inl wt_1431
theorem wc_Md_273 : Cond.constantLong "StackAssemblerModel" 273 (Int64.ofInt (-9223372036854775808)) ∈ kz_TT := by
  rw [show Int64.ofInt (-9223372036854775808) = ((-9223372036854775808) : Int64) from by decide]
  exact wt_1437
theorem wc_Md_279 : Cond.constantLong "StackAssemblerModel" 279 (Int64.ofInt 2147483648) ∈ kz_TT := by
  rw [show Int64.ofInt 2147483648 = (2147483648 : Int64) from by decide]
  exact wt_1441
theorem fp_Md_263_Md_constant : qz_fp yd_Md_constant 263 12 47 := ⟨_, rfl, by decide, Or.inl ⟨rfl, Or.inl wt_1164⟩⟩
theorem ln_Md_300 : qz_ln "StackAssemblerModel" 300 yd_Md_sameName := Or.inl wt_1383
theorem fl_Md_297 : qz_fl "StackAssemblerModel" 297 12 39 := ⟨_, rfl, by decide, Or.inl wt_1156⟩
theorem ln_Md_284 : qz_ln "StackAssemblerModel" 284 yd_Md_isId := Or.inl wt_1379
theorem ln_Md_290 : qz_ln "StackAssemblerModel" 290 yd_Md_labelOf := Or.inl wt_1446
theorem ln_Md_294 : qz_ln "StackAssemblerModel" 294 yd_Md_variableOf := Or.inl wt_1392
theorem fl_Md_281 : qz_fl "StackAssemblerModel" 281 12 48 := ⟨_, rfl, by decide, Or.inl wt_1165⟩
theorem fl_Md_287 : qz_fl "StackAssemblerModel" 287 12 28 := ⟨_, rfl, by decide, Or.inl wt_1145⟩
theorem fp_Md_263_Md_index : qz_fp yd_Md_index 263 12 47 := ⟨_, rfl, by decide, Or.inl ⟨rfl, Or.inl wt_1164⟩⟩
theorem fp_Md_281_Md_index : qz_fp yd_Md_index 281 12 48 := ⟨_, rfl, by decide, Or.inl ⟨rfl, Or.inl wt_1165⟩⟩
theorem fp_Md_287_Md_index : qz_fp yd_Md_index 287 12 28 := ⟨_, rfl, by decide, Or.inl ⟨rfl, Or.inl wt_1145⟩⟩
theorem wc_Md_338 : Cond.constantLong "StackAssemblerModel" 338 (Int64.ofInt 6894386) ∈ kz_TT := by
  rw [show Int64.ofInt 6894386 = (6894386 : Int64) from by decide]
  exact wt_1400
theorem wc_Md_340 : Cond.constantLong "StackAssemblerModel" 340 (Int64.ofInt 6895156) ∈ kz_TT := by
  rw [show Int64.ofInt 6895156 = (6895156 : Int64) from by decide]
  exact wt_1401
theorem ln_Md_310 : qz_ln "StackAssemblerModel" 310 yd_Md_pass := Or.inl wt_1357
theorem ln_Md_342 : qz_ln "StackAssemblerModel" 342 yd_Md_variable := Or.inl wt_1396
theorem ln_Md_346 : qz_ln "StackAssemblerModel" 346 yd_Md_constant := Or.inl wt_1427
theorem ln_Md_350 : qz_ln "StackAssemblerModel" 350 yd_Md_index := Or.inl wt_1442
theorem fp_Md_263_Md_readImmediate : qz_fp yd_Md_readImmediate 263 12 47 := ⟨_, rfl, by decide, Or.inl ⟨rfl, Or.inl wt_1164⟩⟩
theorem fp_Md_281_Md_readImmediate : qz_fp yd_Md_readImmediate 281 12 48 := ⟨_, rfl, by decide, Or.inl ⟨rfl, Or.inl wt_1165⟩⟩
theorem ln_Md_357 : qz_ln "StackAssemblerModel" 357 yd_Md_isPlain := Or.inl wt_1420
theorem ln_Md_354 : qz_ln "StackAssemblerModel" 354 yd_Md_instructionWord := Or.inl wt_1416
theorem ln_Md_360 : qz_ln "StackAssemblerModel" 360 yd_Md_readImmediate := Or.inl wt_1423
theorem fp_Md_297_Md_fold : qz_fp yd_Md_fold 297 12 39 := ⟨_, rfl, by decide, Or.inl ⟨rfl, Or.inl wt_1156⟩⟩
theorem fl_Md_304 : qz_fl "StackAssemblerModel" 304 12 23 := ⟨_, rfl, by decide, Or.inl wt_1140⟩
theorem fp_Md_304_Md_emit : qz_fp yd_Md_emit 304 12 23 := ⟨_, rfl, by decide, Or.inl ⟨rfl, Or.inl wt_1140⟩⟩
theorem ln_Md_363 : qz_ln "StackAssemblerModel" 363 yd_Md_open := Or.inl wt_1454
theorem ln_Md_366 : qz_ln "StackAssemblerModel" 366 yd_Md_fold := Or.inl wt_1412
theorem ln_Md_369 : qz_ln "StackAssemblerModel" 369 yd_Md_hasRoom := Or.inl wt_1458
theorem ln_Md_372 : qz_ln "StackAssemblerModel" 372 yd_Md_emit := Or.inl wt_1462
theorem ln_Md_376 : qz_ln "StackAssemblerModel" 376 yd_Md_noteCall := Or.inl wt_1466
theorem fp_Md_297_Md_inFold : qz_fp yd_Md_inFold 297 12 39 := ⟨_, rfl, by decide, Or.inl ⟨rfl, Or.inl wt_1156⟩⟩
theorem ln_Md_330 : qz_ln "StackAssemblerModel" 330 yd_Md_readType := Or.inl wt_1403
theorem wc_Md_328 : Cond.constantLong "StackAssemblerModel" 328 (Int64.ofInt 125780054338676) ∈ kz_TT := by
  rw [show Int64.ofInt 125780054338676 = (125780054338676 : Int64) from by decide]
  exact wt_1402
theorem fp_Md_297_Md_beginBlock : qz_fp yd_Md_beginBlock 297 12 39 := ⟨_, rfl, by decide, Or.inl ⟨rfl, Or.inl wt_1156⟩⟩
theorem ln_Md_380 : qz_ln "StackAssemblerModel" 380 yd_Md_blockName := Or.inl wt_1482
theorem fp_Md_297_Md_turnBlock : qz_fp yd_Md_turnBlock 297 12 39 := ⟨_, rfl, by decide, Or.inl ⟨rfl, Or.inl wt_1156⟩⟩
theorem ln_Md_383 : qz_ln "StackAssemblerModel" 383 yd_Md_beginBlock := Or.inl wt_1474
theorem ln_Md_386 : qz_ln "StackAssemblerModel" 386 yd_Md_turnBlock := Or.inl wt_1478
theorem ln_Md_389 : qz_ln "StackAssemblerModel" 389 yd_Md_inFold := Or.inl wt_1450
theorem ln_Md_392 : qz_ln "StackAssemblerModel" 392 yd_Md_readInstruction := Or.inl wt_1470
theorem ln_Md_325 : qz_ln "StackAssemblerModel" 325 yd_Md_variables := Or.inl wt_1388
theorem ln_Md_335 : qz_ln "StackAssemblerModel" 335 yd_Md_body := Or.inl wt_1408
theorem wc_Md_323 : Cond.constantLong "StackAssemblerModel" 323 (Int64.ofInt 482671223149) ∈ kz_TT := by
  rw [show Int64.ofInt 482671223149 = (482671223149 : Int64) from by decide]
  exact wt_1387
theorem wc_Md_333 : Cond.constantLong "StackAssemblerModel" 333 (Int64.ofInt 465725251948) ∈ kz_TT := by
  rw [show Int64.ofInt 465725251948 = (465725251948 : Int64) from by decide]
  exact wt_1407
theorem fp_Md_297_Md_readFunction : qz_fp yd_Md_readFunction 297 12 39 := ⟨_, rfl, by decide, Or.inl ⟨rfl, Or.inl wt_1156⟩⟩
theorem ln_Md_315 : qz_ln "StackAssemblerModel" 315 yd_Md_passWord := Or.inl wt_1366
theorem ln_Md_320 : qz_ln "StackAssemblerModel" 320 yd_Md_readFunction := Or.inl wt_1375
theorem fl_Md_307 : qz_fl "StackAssemblerModel" 307 12 15 := ⟨_, rfl, by decide, Or.inl wt_1132⟩
theorem wc_Md_313 : Cond.constantLong "StackAssemblerModel" 313 (Int64.ofInt 120325194214501) ∈ kz_TT := by
  rw [show Int64.ofInt 120325194214501 = (120325194214501 : Int64) from by decide]
  exact wt_1365
theorem wc_Md_318 : Cond.constantLong "StackAssemblerModel" 318 (Int64.ofInt 1718972003) ∈ kz_TT := by
  rw [show Int64.ofInt 1718972003 = (1718972003 : Int64) from by decide]
  exact wt_1374
theorem fp_Md_217_Md_readModule : qz_fp yd_Md_readModule 217 12 32 := ⟨_, rfl, by decide, Or.inl ⟨rfl, Or.inl wt_1149⟩⟩
theorem fp_Md_250_Md_readModule : qz_fp yd_Md_readModule 250 12 38 := ⟨_, rfl, by decide, Or.inl ⟨rfl, Or.inl wt_1155⟩⟩
theorem fp_Md_287_Md_readModule : qz_fp yd_Md_readModule 287 12 28 := ⟨_, rfl, by decide, Or.inl ⟨rfl, Or.inl wt_1145⟩⟩
theorem fp_Md_304_Md_readModule : qz_fp yd_Md_readModule 304 12 23 := ⟨_, rfl, by decide, Or.inl ⟨rfl, Or.inl wt_1140⟩⟩
theorem fp_Md_307_Md_readModule : qz_fp yd_Md_readModule 307 12 15 := ⟨_, rfl, by decide, Or.inl ⟨rfl, Or.inl wt_1132⟩⟩
theorem fp_Md_224_Md_resolve : qz_fp yd_Md_resolve 224 12 34 := ⟨_, rfl, by decide, Or.inl ⟨rfl, Or.inl wt_1151⟩⟩
theorem fl_Md_395 : qz_fl "StackAssemblerModel" 395 12 57 := ⟨_, rfl, by decide, Or.inl wt_1174⟩
theorem fp_Md_395_Md_bad : qz_fp yd_Md_bad 395 12 57 := ⟨_, rfl, by decide, Or.inl ⟨rfl, Or.inl wt_1174⟩⟩
theorem fl_Md_399 : qz_fl "StackAssemblerModel" 399 12 51 := ⟨_, rfl, by decide, Or.inl wt_1168⟩
theorem fl_Md_402 : qz_fl "StackAssemblerModel" 402 12 49 := ⟨_, rfl, by decide, Or.inl wt_1166⟩
theorem fp_Md_395_Md_take : qz_fp yd_Md_take 395 12 57 := ⟨_, rfl, by decide, Or.inl ⟨rfl, Or.inl wt_1174⟩⟩
theorem fp_Md_402_Md_take : qz_fp yd_Md_take 402 12 49 := ⟨_, rfl, by decide, Or.inl ⟨rfl, Or.inl wt_1166⟩⟩
theorem fp_Md_402_Md_put : qz_fp yd_Md_put 402 12 49 := ⟨_, rfl, by decide, Or.inl ⟨rfl, Or.inl wt_1166⟩⟩
theorem ln_Md_405 : qz_ln "StackAssemblerModel" 405 yd_Md_take := Or.inl wt_1510
theorem ln_Md_408 : qz_ln "StackAssemblerModel" 408 yd_Md_put := Or.inl wt_1526
theorem fp_Md_402_Md_die : qz_fp yd_Md_die 402 12 49 := ⟨_, rfl, by decide, Or.inl ⟨rfl, Or.inl wt_1166⟩⟩
theorem fp_Md_399_Md_frame : qz_fp yd_Md_frame 399 12 51 := ⟨_, rfl, by decide, Or.inl ⟨rfl, Or.inl wt_1168⟩⟩
theorem ln_Md_412 : qz_ln "StackAssemblerModel" 412 yd_Md_takeResult := Or.inl wt_1506
theorem fp_Md_395_Md_endFrame : qz_fp yd_Md_endFrame 395 12 57 := ⟨_, rfl, by decide, Or.inl ⟨rfl, Or.inl wt_1174⟩⟩
theorem fp_Md_402_Md_endFrame : qz_fp yd_Md_endFrame 402 12 49 := ⟨_, rfl, by decide, Or.inl ⟨rfl, Or.inl wt_1166⟩⟩
theorem ln_Md_415 : qz_ln "StackAssemblerModel" 415 yd_Md_frame := Or.inl wt_1498
theorem ln_Md_419 : qz_ln "StackAssemblerModel" 419 yd_Md_endFrame := Or.inl wt_1502
theorem fp_Md_395_Md_control : qz_fp yd_Md_control 395 12 57 := ⟨_, rfl, by decide, Or.inl ⟨rfl, Or.inl wt_1174⟩⟩
theorem fp_Md_399_Md_control : qz_fp yd_Md_control 399 12 51 := ⟨_, rfl, by decide, Or.inl ⟨rfl, Or.inl wt_1168⟩⟩
theorem ln_Md_422 : qz_ln "StackAssemblerModel" 422 yd_Md_bad := Or.inl wt_1534
theorem ln_Md_425 : qz_ln "StackAssemblerModel" 425 yd_Md_takeAndPut := Or.inl wt_1538
theorem ln_Md_428 : qz_ln "StackAssemblerModel" 428 yd_Md_die := Or.inl wt_1518
theorem ln_Md_431 : qz_ln "StackAssemblerModel" 431 yd_Md_control := Or.inl wt_1522
theorem ln_Md_434 : qz_ln "StackAssemblerModel" 434 yd_Md_branch := Or.inl wt_1530
theorem ln_Md_438 : qz_ln "StackAssemblerModel" 438 yd_Md_callOf := Or.inl wt_1542
theorem ln_Md_442 : qz_ln "StackAssemblerModel" 442 yd_Md_select := Or.inl wt_1546
theorem ln_Md_445 : qz_ln "StackAssemblerModel" 445 yd_Md_local := Or.inl wt_1550
theorem ln_Md_449 : qz_ln "StackAssemblerModel" 449 yd_Md_arithmetic := Or.inl wt_1554
theorem ln_Md_452 : qz_ln "StackAssemblerModel" 452 yd_Md_check := Or.inl wt_1514
theorem fl_Md_455 : qz_fl "StackAssemblerModel" 455 12 4 := ⟨_, rfl, by decide, Or.inl wt_1121⟩
theorem fp_Md_395_Md_isValid : qz_fp yd_Md_isValid 395 12 57 := ⟨_, rfl, by decide, Or.inl ⟨rfl, Or.inl wt_1174⟩⟩
theorem fp_Md_399_Md_isValid : qz_fp yd_Md_isValid 399 12 51 := ⟨_, rfl, by decide, Or.inl ⟨rfl, Or.inl wt_1168⟩⟩
theorem fp_Md_402_Md_isValid : qz_fp yd_Md_isValid 402 12 49 := ⟨_, rfl, by decide, Or.inl ⟨rfl, Or.inl wt_1166⟩⟩
theorem fp_Md_455_Md_isValid : qz_fp yd_Md_isValid 455 12 4 := ⟨_, rfl, by decide, Or.inl ⟨rfl, Or.inl wt_1121⟩⟩
theorem fl_Md_458 : qz_fl "StackAssemblerModel" 458 12 7 := ⟨_, rfl, by decide, Or.inl wt_1124⟩
theorem fp_Md_458_Md_adopt : qz_fp yd_Md_adopt 458 12 7 := ⟨_, rfl, by decide, Or.inl ⟨rfl, Or.inl wt_1124⟩⟩
theorem ln_Md_461 : qz_ln "StackAssemblerModel" 461 yd_Md_readModule := Or.inl wt_1331
theorem ln_Md_464 : qz_ln "StackAssemblerModel" 464 yd_Md_resolve := Or.inl wt_1486
theorem ln_Md_467 : qz_ln "StackAssemblerModel" 467 yd_Md_raise := Or.inl wt_1490
theorem ln_Md_470 : qz_ln "StackAssemblerModel" 470 yd_Md_isValid := Or.inl wt_1494
theorem ln_Md_473 : qz_ln "StackAssemblerModel" 473 yd_Md_adopt := Or.inl wt_1558
theorem fp_Md_206_Md_assemble : qz_fp yd_Md_assemble 206 12 3 := ⟨_, rfl, by decide, Or.inl ⟨rfl, Or.inl wt_1120⟩⟩
theorem fp_Md_455_Md_assemble : qz_fp yd_Md_assemble 455 12 4 := ⟨_, rfl, by decide, Or.inl ⟨rfl, Or.inl wt_1121⟩⟩
theorem fl_Md_476 : qz_fl "StackAssemblerModel" 476 12 60 := ⟨_, rfl, by decide, Or.inl wt_1177⟩
theorem fp_Md_476_Md_add : qz_fp yd_Md_add 476 12 60 := ⟨_, rfl, by decide, Or.inl ⟨rfl, Or.inl wt_1177⟩⟩
theorem ln_Md_481 : qz_ln "StackAssemblerModel" 481 yd_Md_add := Or.inl wt_1566
theorem wc_Md_479 : Cond.constantLong "StackAssemblerModel" 479 (Int64.ofInt 127) ∈ kz_TT := by
  rw [show Int64.ofInt 127 = (127 : Int64) from by decide]
  exact wt_1590
theorem wc_Md_484 : Cond.constantLong "StackAssemblerModel" 484 (Int64.ofInt 63) ∈ kz_TT := by
  rw [show Int64.ofInt 63 = (63 : Int64) from by decide]
  exact wt_1622
theorem wc_Md_486 : Cond.constantLong "StackAssemblerModel" 486 (Int64.ofInt (-64)) ∈ kz_TT := by
  rw [show Int64.ofInt (-64) = ((-64) : Int64) from by decide]
  exact wt_1623
theorem fp_Md_476_Md_close : qz_fp yd_Md_close 476 12 60 := ⟨_, rfl, by decide, Or.inl ⟨rfl, Or.inl wt_1177⟩⟩
theorem ln_Md_488 : qz_ln "StackAssemblerModel" 488 yd_Md_sameSignature := Or.inl wt_1582
theorem ln_Md_491 : qz_ln "StackAssemblerModel" 491 yd_Md_firstLike := Or.inl wt_1578
theorem ln_Md_500 : qz_ln "StackAssemblerModel" 500 yd_Md_typeByte := Or.inl wt_1591
theorem ln_Md_494 : qz_ln "StackAssemblerModel" 494 yd_Md_signaturesBefore := Or.inl wt_1574
theorem ln_Md_497 : qz_ln "StackAssemblerModel" 497 yd_Md_unsigned := Or.inl wt_1586
theorem ln_Md_503 : qz_ln "StackAssemblerModel" 503 yd_Md_close := Or.inl wt_1594
theorem ln_Md_506 : qz_ln "StackAssemblerModel" 506 yd_Md_runBegins := Or.inl wt_1610
theorem ln_Md_509 : qz_ln "StackAssemblerModel" 509 yd_Md_signed := Or.inl wt_1618
theorem ln_Md_512 : qz_ln "StackAssemblerModel" 512 yd_Md_runs := Or.inl wt_1606
theorem ln_Md_515 : qz_ln "StackAssemblerModel" 515 yd_Md_instructionBytes := Or.inl wt_1614
theorem ln_Md_518 : qz_ln "StackAssemblerModel" 518 yd_Md_signatureSection := Or.inl wt_1570
theorem ln_Md_521 : qz_ln "StackAssemblerModel" 521 yd_Md_functionSection := Or.inl wt_1598
theorem ln_Md_524 : qz_ln "StackAssemblerModel" 524 yd_Md_codeSection := Or.inl wt_1602
theorem fl_Md_527 : qz_fl "StackAssemblerModel" 527 12 58 := ⟨_, rfl, by decide, Or.inl wt_1175⟩
theorem fp_Md_206_Md_encode : qz_fp yd_Md_encode 206 12 3 := ⟨_, rfl, by decide, Or.inl ⟨rfl, Or.inl wt_1120⟩⟩
theorem fp_Md_476_Md_encode : qz_fp yd_Md_encode 476 12 60 := ⟨_, rfl, by decide, Or.inl ⟨rfl, Or.inl wt_1177⟩⟩
theorem fp_Md_527_Md_encode : qz_fp yd_Md_encode 527 12 58 := ⟨_, rfl, by decide, Or.inl ⟨rfl, Or.inl wt_1175⟩⟩
theorem fp_Md_206_Md_octet : qz_fp yd_Md_octet 206 12 3 := ⟨_, rfl, by decide, Or.inl ⟨rfl, Or.inl wt_1120⟩⟩
theorem fl_Md_530 : qz_fl "StackAssemblerModel" 530 12 62 := ⟨_, rfl, by decide, Or.inl wt_1179⟩
theorem fp_Md_530_Md_out : qz_fp yd_Md_out 530 12 62 := ⟨_, rfl, by decide, Or.inl ⟨rfl, Or.inl wt_1179⟩⟩
theorem ln_Md_533 : qz_ln "StackAssemblerModel" 533 yd_Md_out := Or.inl wt_1632
theorem wc_Md_536 : Cond.constantLong "StackAssemblerModel" 536 (Int64.ofInt 9) ∈ kz_TT := by
  rw [show Int64.ofInt 9 = (9 : Int64) from by decide]
  exact wt_1660
theorem wc_Md_538 : Cond.constantLong "StackAssemblerModel" 538 (Int64.ofInt (-9)) ∈ kz_TT := by
  rw [show Int64.ofInt (-9) = ((-9) : Int64) from by decide]
  exact wt_1661
theorem ln_Md_540 : qz_ln "StackAssemblerModel" 540 yd_Md_outLong := Or.inl wt_1636
theorem ln_Md_543 : qz_ln "StackAssemblerModel" 543 yd_Md_outType := Or.inl wt_1644
theorem ln_Md_546 : qz_ln "StackAssemblerModel" 546 yd_Md_outNumber := Or.inl wt_1656
theorem ln_Md_549 : qz_ln "StackAssemblerModel" 549 yd_Md_outResult := Or.inl wt_1648
theorem ln_Md_552 : qz_ln "StackAssemblerModel" 552 yd_Md_outRow := Or.inl wt_1640
theorem ln_Md_556 : qz_ln "StackAssemblerModel" 556 yd_Md_outInstruction := Or.inl wt_1652
theorem fp_Md_206_Md_print : qz_fp yd_Md_print 206 12 3 := ⟨_, rfl, by decide, Or.inl ⟨rfl, Or.inl wt_1120⟩⟩
theorem fp_Md_210_Md_print : qz_fp yd_Md_print 210 12 5 := ⟨_, rfl, by decide, Or.inl ⟨rfl, Or.inl wt_1122⟩⟩
theorem fp_Md_530_Md_print : qz_fp yd_Md_print 530 12 62 := ⟨_, rfl, by decide, Or.inl ⟨rfl, Or.inl wt_1179⟩⟩
theorem fp_Md_206_Md_place : qz_fp yd_Md_place 206 12 3 := ⟨_, rfl, by decide, Or.inl ⟨rfl, Or.inl wt_1120⟩⟩
theorem fp_Md_206_Md_functions : qz_fp yd_Md_functions 206 12 3 := ⟨_, rfl, by decide, Or.inl ⟨rfl, Or.inl wt_1120⟩⟩
theorem ln_Md_559 : qz_ln "StackAssemblerModel" 559 yd_Md_isFunction := Or.inl wt_1674
theorem fp_Md_206_Md_function : qz_fp yd_Md_function 206 12 3 := ⟨_, rfl, by decide, Or.inl ⟨rfl, Or.inl wt_1120⟩⟩
theorem ln_Md_562 : qz_ln "StackAssemblerModel" 562 yd_Md_isInstruction := Or.inl wt_1682
theorem fp_Md_206_Md_instruction : qz_fp yd_Md_instruction 206 12 3 := ⟨_, rfl, by decide, Or.inl ⟨rfl, Or.inl wt_1120⟩⟩
theorem fp_Md_206_Md_immediate : qz_fp yd_Md_immediate 206 12 3 := ⟨_, rfl, by decide, Or.inl ⟨rfl, Or.inl wt_1120⟩⟩
theorem fp_SA_22_SA_assembleT : qz_fp yd_SA_assembleT 22 0 6 := ⟨_, rfl, by decide, Or.inl ⟨rfl, Or.inl wt_353⟩⟩
theorem fp_SA_26_SA_assembleT : qz_fp yd_SA_assembleT 26 0 7 := ⟨_, rfl, by decide, Or.inl ⟨rfl, Or.inl wt_354⟩⟩
theorem fp_SA_82_SA_assembleT : qz_fp yd_SA_assembleT 82 0 8 := ⟨_, rfl, by decide, Or.inl ⟨rfl, Or.inl wt_355⟩⟩
theorem ss_SA_104 : ("StackAssembler", 104, "the module is invalid", ((-53) : Int)) ∈ kz_ss := List.mem_of_getElem? (i := 9) rfl
theorem ss_SA_92 : ("StackAssembler", 92, "the text is malformed", ((-49) : Int)) ∈ kz_ss := List.mem_of_getElem? (i := 7) rfl
theorem ss_SA_99 : ("StackAssembler", 99, "the text is too much", ((-51) : Int)) ∈ kz_ss := List.mem_of_getElem? (i := 8) rfl
theorem nx_SA_102 : Cond.classLink "StackAssembler" 102 "java/lang/IllegalStateException" ∈ kz_TT ∧ Cond.instantiable "java/lang/IllegalStateException" 6 ∈ kz_TT ∧ Cond.initialized "java/lang/IllegalStateException" ∈ kz_TT := ⟨wt_1002, wt_1003, wt_27⟩
theorem oa_SA_106 : qz_oa "StackAssembler" 106 "java/lang/IllegalStateException" ["java/lang/RuntimeException", "java/lang/Exception"] := List.forall_mem_append.mpr ⟨List.forall_mem_append.mpr ⟨List.forall_mem_append.mpr ⟨List.forall_mem_cons.mpr ⟨Or.inl wt_22, List.forall_mem_cons.mpr ⟨Or.inl wt_941, List.forall_mem_cons.mpr ⟨Or.inl wt_950, List.forall_mem_cons.mpr ⟨Or.inl wt_954, List.forall_mem_cons.mpr ⟨Or.inl wt_957, List.forall_mem_cons.mpr ⟨Or.inl wt_959, List.forall_mem_cons.mpr ⟨Or.inl wt_942, List.forall_mem_cons.mpr ⟨Or.inl wt_943, List.forall_mem_cons.mpr ⟨Or.inl wt_34, List.forall_mem_cons.mpr ⟨Or.inl wt_35, List.forall_mem_cons.mpr ⟨Or.inl wt_944, List.forall_mem_cons.mpr ⟨Or.inl wt_949, List.forall_mem_cons.mpr ⟨Or.inl wt_955, List.forall_mem_cons.mpr ⟨Or.inl wt_975, List.forall_mem_cons.mpr ⟨Or.inl wt_931, List.forall_mem_cons.mpr ⟨Or.inl wt_976, List.forall_mem_cons.mpr ⟨Or.inl wt_933, List.forall_mem_cons.mpr ⟨Or.inl wt_977, List.forall_mem_cons.mpr ⟨Or.inl wt_935, List.forall_mem_cons.mpr ⟨Or.inl wt_945, List.forall_mem_cons.mpr ⟨Or.inr (Or.inr ⟨_, List.mem_of_getElem? (i := 0) rfl, Or.inr rfl⟩), List.forall_mem_cons.mpr ⟨Or.inl wt_947, List.forall_mem_cons.mpr ⟨Or.inr (Or.inr ⟨_, List.mem_of_getElem? (i := 1) rfl, Or.inr rfl⟩), List.forall_mem_cons.mpr ⟨Or.inl wt_937, (fun _ z => by cases z)⟩⟩⟩⟩⟩⟩⟩⟩⟩⟩⟩⟩⟩⟩⟩⟩⟩⟩⟩⟩⟩⟩⟩⟩, List.forall_mem_cons.mpr ⟨Or.inl wt_971, List.forall_mem_cons.mpr ⟨Or.inl wt_972, List.forall_mem_cons.mpr ⟨Or.inl wt_974, List.forall_mem_cons.mpr ⟨Or.inl wt_937, (fun _ z => by cases z)⟩⟩⟩⟩⟩, List.forall_mem_append.mpr ⟨List.forall_mem_cons.mpr ⟨Or.inl wt_1013, List.forall_mem_cons.mpr ⟨Or.inl wt_1014, List.forall_mem_cons.mpr ⟨Or.inl wt_1015, List.forall_mem_cons.mpr ⟨Or.inl wt_965, List.forall_mem_cons.mpr ⟨Or.inr (Or.inl wn_923), (fun _ z => by cases z)⟩⟩⟩⟩⟩, List.forall_mem_append.mpr ⟨List.forall_mem_cons.mpr ⟨Or.inl wt_965, List.forall_mem_cons.mpr ⟨Or.inl wt_966, List.forall_mem_cons.mpr ⟨Or.inl wt_967, List.forall_mem_cons.mpr ⟨Or.inl wt_968, List.forall_mem_cons.mpr ⟨Or.inr (Or.inl wn_925), (fun _ z => by cases z)⟩⟩⟩⟩⟩, List.forall_mem_cons.mpr ⟨Or.inl wt_968, List.forall_mem_cons.mpr ⟨Or.inl wt_969, List.forall_mem_cons.mpr ⟨Or.inl wt_970, List.forall_mem_cons.mpr ⟨Or.inl wt_971, List.forall_mem_cons.mpr ⟨Or.inr (Or.inl wn_927), (fun _ z => by cases z)⟩⟩⟩⟩⟩⟩⟩⟩, List.forall_mem_cons.mpr ⟨Or.inl wt_1012, List.forall_mem_cons.mpr ⟨Or.inl wt_1003, List.forall_mem_cons.mpr ⟨Or.inr (Or.inl wn_1004), List.forall_mem_cons.mpr ⟨Or.inl wt_1005, List.forall_mem_cons.mpr ⟨Or.inl wt_952, List.forall_mem_cons.mpr ⟨Or.inl wt_1006, List.forall_mem_cons.mpr ⟨Or.inl wt_1007, List.forall_mem_cons.mpr ⟨Or.inl wt_1008, List.forall_mem_cons.mpr ⟨Or.inl wt_1009, List.forall_mem_cons.mpr ⟨Or.inr (Or.inr ⟨_, List.mem_of_getElem? (i := 0) rfl, Or.inl rfl⟩), List.forall_mem_cons.mpr ⟨Or.inr (Or.inr ⟨_, List.mem_of_getElem? (i := 1) rfl, Or.inl rfl⟩), List.forall_mem_cons.mpr ⟨Or.inl wt_940, List.forall_mem_cons.mpr ⟨Or.inl wt_939, List.forall_mem_cons.mpr ⟨Or.inl wt_1010, (fun _ z => by cases z)⟩⟩⟩⟩⟩⟩⟩⟩⟩⟩⟩⟩⟩⟩⟩
theorem nx_SA_90 : Cond.classLink "StackAssembler" 90 "java/lang/IllegalArgumentException" ∈ kz_TT ∧ Cond.instantiable "java/lang/IllegalArgumentException" 6 ∈ kz_TT ∧ Cond.initialized "java/lang/IllegalArgumentException" ∈ kz_TT := ⟨wt_919, wt_920, wt_25⟩
theorem oa_SA_94 : qz_oa "StackAssembler" 94 "java/lang/IllegalArgumentException" ["java/lang/RuntimeException", "java/lang/Exception"] := List.forall_mem_append.mpr ⟨List.forall_mem_append.mpr ⟨List.forall_mem_append.mpr ⟨List.forall_mem_cons.mpr ⟨Or.inl wt_22, List.forall_mem_cons.mpr ⟨Or.inl wt_941, List.forall_mem_cons.mpr ⟨Or.inl wt_950, List.forall_mem_cons.mpr ⟨Or.inl wt_954, List.forall_mem_cons.mpr ⟨Or.inl wt_957, List.forall_mem_cons.mpr ⟨Or.inl wt_959, List.forall_mem_cons.mpr ⟨Or.inl wt_942, List.forall_mem_cons.mpr ⟨Or.inl wt_943, List.forall_mem_cons.mpr ⟨Or.inl wt_34, List.forall_mem_cons.mpr ⟨Or.inl wt_35, List.forall_mem_cons.mpr ⟨Or.inl wt_944, List.forall_mem_cons.mpr ⟨Or.inl wt_949, List.forall_mem_cons.mpr ⟨Or.inl wt_955, List.forall_mem_cons.mpr ⟨Or.inl wt_975, List.forall_mem_cons.mpr ⟨Or.inl wt_931, List.forall_mem_cons.mpr ⟨Or.inl wt_976, List.forall_mem_cons.mpr ⟨Or.inl wt_933, List.forall_mem_cons.mpr ⟨Or.inl wt_977, List.forall_mem_cons.mpr ⟨Or.inl wt_935, List.forall_mem_cons.mpr ⟨Or.inl wt_945, List.forall_mem_cons.mpr ⟨Or.inr (Or.inr ⟨_, List.mem_of_getElem? (i := 0) rfl, Or.inr rfl⟩), List.forall_mem_cons.mpr ⟨Or.inl wt_947, List.forall_mem_cons.mpr ⟨Or.inr (Or.inr ⟨_, List.mem_of_getElem? (i := 1) rfl, Or.inr rfl⟩), List.forall_mem_cons.mpr ⟨Or.inl wt_937, (fun _ z => by cases z)⟩⟩⟩⟩⟩⟩⟩⟩⟩⟩⟩⟩⟩⟩⟩⟩⟩⟩⟩⟩⟩⟩⟩⟩, List.forall_mem_cons.mpr ⟨Or.inl wt_971, List.forall_mem_cons.mpr ⟨Or.inl wt_972, List.forall_mem_cons.mpr ⟨Or.inl wt_974, List.forall_mem_cons.mpr ⟨Or.inl wt_937, (fun _ z => by cases z)⟩⟩⟩⟩⟩, List.forall_mem_append.mpr ⟨List.forall_mem_cons.mpr ⟨Or.inl wt_962, List.forall_mem_cons.mpr ⟨Or.inl wt_963, List.forall_mem_cons.mpr ⟨Or.inl wt_964, List.forall_mem_cons.mpr ⟨Or.inl wt_965, List.forall_mem_cons.mpr ⟨Or.inr (Or.inl wn_923), (fun _ z => by cases z)⟩⟩⟩⟩⟩, List.forall_mem_append.mpr ⟨List.forall_mem_cons.mpr ⟨Or.inl wt_965, List.forall_mem_cons.mpr ⟨Or.inl wt_966, List.forall_mem_cons.mpr ⟨Or.inl wt_967, List.forall_mem_cons.mpr ⟨Or.inl wt_968, List.forall_mem_cons.mpr ⟨Or.inr (Or.inl wn_925), (fun _ z => by cases z)⟩⟩⟩⟩⟩, List.forall_mem_cons.mpr ⟨Or.inl wt_968, List.forall_mem_cons.mpr ⟨Or.inl wt_969, List.forall_mem_cons.mpr ⟨Or.inl wt_970, List.forall_mem_cons.mpr ⟨Or.inl wt_971, List.forall_mem_cons.mpr ⟨Or.inr (Or.inl wn_927), (fun _ z => by cases z)⟩⟩⟩⟩⟩⟩⟩⟩, List.forall_mem_cons.mpr ⟨Or.inl wt_961, List.forall_mem_cons.mpr ⟨Or.inl wt_920, List.forall_mem_cons.mpr ⟨Or.inr (Or.inl wn_921), List.forall_mem_cons.mpr ⟨Or.inl wt_928, List.forall_mem_cons.mpr ⟨Or.inl wt_929, List.forall_mem_cons.mpr ⟨Or.inl wt_930, List.forall_mem_cons.mpr ⟨Or.inl wt_932, List.forall_mem_cons.mpr ⟨Or.inl wt_934, List.forall_mem_cons.mpr ⟨Or.inl wt_936, List.forall_mem_cons.mpr ⟨Or.inr (Or.inr ⟨_, List.mem_of_getElem? (i := 0) rfl, Or.inl rfl⟩), List.forall_mem_cons.mpr ⟨Or.inr (Or.inr ⟨_, List.mem_of_getElem? (i := 1) rfl, Or.inl rfl⟩), List.forall_mem_cons.mpr ⟨Or.inl wt_940, List.forall_mem_cons.mpr ⟨Or.inl wt_939, List.forall_mem_cons.mpr ⟨Or.inl wt_938, (fun _ z => by cases z)⟩⟩⟩⟩⟩⟩⟩⟩⟩⟩⟩⟩⟩⟩⟩
theorem nx_SA_97 : Cond.classLink "StackAssembler" 97 "java/lang/UnsupportedOperationException" ∈ kz_TT ∧ Cond.instantiable "java/lang/UnsupportedOperationException" 6 ∈ kz_TT ∧ Cond.initialized "java/lang/UnsupportedOperationException" ∈ kz_TT := ⟨wt_986, wt_987, wt_26⟩
theorem oa_SA_101 : qz_oa "StackAssembler" 101 "java/lang/UnsupportedOperationException" ["java/lang/RuntimeException", "java/lang/Exception"] := List.forall_mem_append.mpr ⟨List.forall_mem_append.mpr ⟨List.forall_mem_append.mpr ⟨List.forall_mem_cons.mpr ⟨Or.inl wt_22, List.forall_mem_cons.mpr ⟨Or.inl wt_941, List.forall_mem_cons.mpr ⟨Or.inl wt_950, List.forall_mem_cons.mpr ⟨Or.inl wt_954, List.forall_mem_cons.mpr ⟨Or.inl wt_957, List.forall_mem_cons.mpr ⟨Or.inl wt_959, List.forall_mem_cons.mpr ⟨Or.inl wt_942, List.forall_mem_cons.mpr ⟨Or.inl wt_943, List.forall_mem_cons.mpr ⟨Or.inl wt_34, List.forall_mem_cons.mpr ⟨Or.inl wt_35, List.forall_mem_cons.mpr ⟨Or.inl wt_944, List.forall_mem_cons.mpr ⟨Or.inl wt_949, List.forall_mem_cons.mpr ⟨Or.inl wt_955, List.forall_mem_cons.mpr ⟨Or.inl wt_975, List.forall_mem_cons.mpr ⟨Or.inl wt_931, List.forall_mem_cons.mpr ⟨Or.inl wt_976, List.forall_mem_cons.mpr ⟨Or.inl wt_933, List.forall_mem_cons.mpr ⟨Or.inl wt_977, List.forall_mem_cons.mpr ⟨Or.inl wt_935, List.forall_mem_cons.mpr ⟨Or.inl wt_945, List.forall_mem_cons.mpr ⟨Or.inr (Or.inr ⟨_, List.mem_of_getElem? (i := 0) rfl, Or.inr rfl⟩), List.forall_mem_cons.mpr ⟨Or.inl wt_947, List.forall_mem_cons.mpr ⟨Or.inr (Or.inr ⟨_, List.mem_of_getElem? (i := 1) rfl, Or.inr rfl⟩), List.forall_mem_cons.mpr ⟨Or.inl wt_937, (fun _ z => by cases z)⟩⟩⟩⟩⟩⟩⟩⟩⟩⟩⟩⟩⟩⟩⟩⟩⟩⟩⟩⟩⟩⟩⟩⟩, List.forall_mem_cons.mpr ⟨Or.inl wt_971, List.forall_mem_cons.mpr ⟨Or.inl wt_972, List.forall_mem_cons.mpr ⟨Or.inl wt_974, List.forall_mem_cons.mpr ⟨Or.inl wt_937, (fun _ z => by cases z)⟩⟩⟩⟩⟩, List.forall_mem_append.mpr ⟨List.forall_mem_cons.mpr ⟨Or.inl wt_997, List.forall_mem_cons.mpr ⟨Or.inl wt_998, List.forall_mem_cons.mpr ⟨Or.inl wt_999, List.forall_mem_cons.mpr ⟨Or.inl wt_965, List.forall_mem_cons.mpr ⟨Or.inr (Or.inl wn_923), (fun _ z => by cases z)⟩⟩⟩⟩⟩, List.forall_mem_append.mpr ⟨List.forall_mem_cons.mpr ⟨Or.inl wt_965, List.forall_mem_cons.mpr ⟨Or.inl wt_966, List.forall_mem_cons.mpr ⟨Or.inl wt_967, List.forall_mem_cons.mpr ⟨Or.inl wt_968, List.forall_mem_cons.mpr ⟨Or.inr (Or.inl wn_925), (fun _ z => by cases z)⟩⟩⟩⟩⟩, List.forall_mem_cons.mpr ⟨Or.inl wt_968, List.forall_mem_cons.mpr ⟨Or.inl wt_969, List.forall_mem_cons.mpr ⟨Or.inl wt_970, List.forall_mem_cons.mpr ⟨Or.inl wt_971, List.forall_mem_cons.mpr ⟨Or.inr (Or.inl wn_927), (fun _ z => by cases z)⟩⟩⟩⟩⟩⟩⟩⟩, List.forall_mem_cons.mpr ⟨Or.inl wt_996, List.forall_mem_cons.mpr ⟨Or.inl wt_987, List.forall_mem_cons.mpr ⟨Or.inr (Or.inl wn_988), List.forall_mem_cons.mpr ⟨Or.inl wt_989, List.forall_mem_cons.mpr ⟨Or.inl wt_953, List.forall_mem_cons.mpr ⟨Or.inl wt_990, List.forall_mem_cons.mpr ⟨Or.inl wt_991, List.forall_mem_cons.mpr ⟨Or.inl wt_992, List.forall_mem_cons.mpr ⟨Or.inl wt_993, List.forall_mem_cons.mpr ⟨Or.inr (Or.inr ⟨_, List.mem_of_getElem? (i := 0) rfl, Or.inl rfl⟩), List.forall_mem_cons.mpr ⟨Or.inr (Or.inr ⟨_, List.mem_of_getElem? (i := 1) rfl, Or.inl rfl⟩), List.forall_mem_cons.mpr ⟨Or.inl wt_940, List.forall_mem_cons.mpr ⟨Or.inl wt_939, List.forall_mem_cons.mpr ⟨Or.inl wt_994, (fun _ z => by cases z)⟩⟩⟩⟩⟩⟩⟩⟩⟩⟩⟩⟩⟩⟩⟩
theorem fp_SA_10_SA_printT : qz_fp yd_SA_printT 10 0 4 := ⟨_, rfl, by decide, Or.inl ⟨rfl, Or.inl wt_351⟩⟩
theorem fp_SA_16_SA_printT : qz_fp yd_SA_printT 16 0 5 := ⟨_, rfl, by decide, Or.inl ⟨rfl, Or.inl wt_352⟩⟩
theorem ss_SA_120 : ("StackAssembler", 120, "the printed text is too long", ((-65) : Int)) ∈ kz_ss := List.mem_of_getElem? (i := 17) rfl
