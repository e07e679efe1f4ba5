section
/-! The kit's witness of a start, with one class more and the row FIELD of that class (own rows). -/
/-- a second class of arrays of long: its clone answers the array itself -/
def kz_cls : Class := { start1.cArr "wanting" 13 .long with methods := #[Lib.HandJ.method "clone" "()Ljava/lang/Object;" [] (some (.object "java/lang/Object")) 0x1 1 ⟨#[0x2a, 0xb0]⟩] }
def kz_bad : State := { start1.aboutOf #[] with vm := { (start1.aboutOf #[]).vm with classes := (start1.aboutOf #[]).vm.classes.push kz_cls }, heap := (start1.aboutOf #[]).heap.setIfInBounds 3 { cls := 20, slots := #[.long (4294966319), .long (4294967294), .long (4294967295), .long (4294967295), .long (4294967295), .long (4294967295), .long (4294967295), .long (4294967295)], vm := .none } }
theorem kz_word_code : (Cond.code x code maxLocals ret).before start1.args0 kz_bad = true := su_hand_word (m := ⟨0, 0⟩) (by decide +kernel) rfl (by decide +kernel) (by decide +kernel)
theorem kz_code0 : (Jvm.Cond.code (⟨"KeyCurve", "<init>", "()V"⟩ : Jvm.MethodName) prog_1_method_1_code 2 none).before start1.args0 kz_bad = true := su_hand_word (m := ⟨2, 0⟩) (by decide +kernel) rfl (by decide +kernel) (by decide +kernel)
theorem kz_code1 : (Jvm.Cond.code (⟨"java/lang/Object", "<init>", "()V"⟩ : Jvm.MethodName) object_method_1_code 1 none).before start1.args0 kz_bad = true := su_hand_word (m := ⟨1, 0⟩) (by decide +kernel) rfl (by decide +kernel) (by decide +kernel)
theorem kz_code2 : (Jvm.Cond.code (⟨"KeyCurve$Spot", "<init>", "()V"⟩ : Jvm.MethodName) prog_4_method_1_code 1 none).before start1.args0 kz_bad = true := su_hand_word (m := ⟨3, 0⟩) (by decide +kernel) rfl (by decide +kernel) (by decide +kernel)
theorem kz_code3 : (Jvm.Cond.code (⟨"KeyCurve$Prime", "<init>", "([J[JI)V"⟩ : Jvm.MethodName) prog_3_method_1_code 4 none).before start1.args0 kz_bad = true := su_hand_word (m := ⟨4, 0⟩) (by decide +kernel) rfl (by decide +kernel) (by decide +kernel)
theorem kz_code4 : (Jvm.Cond.code (⟨"KeyCurve$Curve", "<init>", "(LKeyCurve$Prime;)V"⟩ : Jvm.MethodName) prog_2_method_1_code 2 none).before start1.args0 kz_bad = true := su_hand_word (m := ⟨5, 0⟩) (by decide +kernel) rfl (by decide +kernel) (by decide +kernel)
theorem kz_code5 : (Jvm.Cond.code (⟨"KeyCurve", "set", "(III)I"⟩ : Jvm.MethodName) prog_1_method_2_code 6 (some .int)).before start1.args0 kz_bad = true := su_hand_word (m := ⟨2, 1⟩) (by decide +kernel) rfl (by decide +kernel) (by decide +kernel)
theorem kz_code6 : (Jvm.Cond.code (⟨"KeyCurve", "register", "(I)[J"⟩ : Jvm.MethodName) prog_1_method_17_code 2 (some (.array .long))).before start1.args0 kz_bad = true := su_hand_word (m := ⟨2, 16⟩) (by decide +kernel) rfl (by decide +kernel) (by decide +kernel)
theorem kz_code7 : (Jvm.Cond.code (⟨"KeyCurve", "get", "(II)I"⟩ : Jvm.MethodName) prog_1_method_3_code 3 (some .int)).before start1.args0 kz_bad = true := su_hand_word (m := ⟨2, 2⟩) (by decide +kernel) rfl (by decide +kernel) (by decide +kernel)
theorem kz_code8 : (Jvm.Cond.code (⟨"KeyCurve", "add", "(IIIZ)V"⟩ : Jvm.MethodName) prog_1_method_4_code 5 none).before start1.args0 kz_bad = true := su_hand_word (m := ⟨2, 3⟩) (by decide +kernel) rfl (by decide +kernel) (by decide +kernel)
theorem kz_code9 : (Jvm.Cond.code (⟨"KeyCurve", "prime", "(Z)LKeyCurve$Prime;"⟩ : Jvm.MethodName) prog_1_method_19_code 2 (some (.object "KeyCurve$Prime"))).before start1.args0 kz_bad = true := su_hand_word (m := ⟨2, 18⟩) (by decide +kernel) rfl (by decide +kernel) (by decide +kernel)
theorem kz_code10 : (Jvm.Cond.code (⟨"KeyCurve$Prime", "sum", "([J[J[J)V"⟩ : Jvm.MethodName) prog_3_method_2_code 7 none).before start1.args0 kz_bad = true := su_hand_word (m := ⟨4, 1⟩) (by decide +kernel) rfl (by decide +kernel) (by decide +kernel)
theorem kz_code11 : (Jvm.Cond.code (⟨"KeyCurve$Words", "sumInto", "([J[J[J)J"⟩ : Jvm.MethodName) prog_5_method_8_code 8 (some .long)).before start1.args0 kz_bad = true := su_hand_word (m := ⟨7, 6⟩) (by decide +kernel) rfl (by decide +kernel) (by decide +kernel)
theorem kz_code12 : (Jvm.Cond.code (⟨"KeyCurve$Prime", "trim", "([J)V"⟩ : Jvm.MethodName) prog_3_method_7_code 2 none).before start1.args0 kz_bad = true := su_hand_word (m := ⟨4, 6⟩) (by decide +kernel) rfl (by decide +kernel) (by decide +kernel)
theorem kz_code13 : (Jvm.Cond.code (⟨"KeyCurve$Words", "isBelow", "([J[J)Z"⟩ : Jvm.MethodName) prog_5_method_5_code 3 (some .boolean)).before start1.args0 kz_bad = true := su_hand_word (m := ⟨7, 3⟩) (by decide +kernel) rfl (by decide +kernel) (by decide +kernel)
theorem kz_code14 : (Jvm.Cond.code (⟨"KeyCurve$Words", "differenceInto", "([J[J[J)J"⟩ : Jvm.MethodName) prog_5_method_9_code 8 (some .long)).before start1.args0 kz_bad = true := su_hand_word (m := ⟨7, 7⟩) (by decide +kernel) rfl (by decide +kernel) (by decide +kernel)
theorem kz_code15 : (Jvm.Cond.code (⟨"KeyCurve", "subtract", "(IIIZ)V"⟩ : Jvm.MethodName) prog_1_method_5_code 5 none).before start1.args0 kz_bad = true := su_hand_word (m := ⟨2, 4⟩) (by decide +kernel) rfl (by decide +kernel) (by decide +kernel)
theorem kz_code16 : (Jvm.Cond.code (⟨"KeyCurve$Prime", "difference", "([J[J[J)V"⟩ : Jvm.MethodName) prog_3_method_3_code 7 none).before start1.args0 kz_bad = true := su_hand_word (m := ⟨4, 2⟩) (by decide +kernel) rfl (by decide +kernel) (by decide +kernel)
theorem kz_code17 : (Jvm.Cond.code (⟨"KeyCurve", "multiply", "(IIIZ)V"⟩ : Jvm.MethodName) prog_1_method_6_code 5 none).before start1.args0 kz_bad = true := su_hand_word (m := ⟨2, 5⟩) (by decide +kernel) rfl (by decide +kernel) (by decide +kernel)
theorem kz_code18 : (Jvm.Cond.code (⟨"KeyCurve$Prime", "product", "([J[J[J)V"⟩ : Jvm.MethodName) prog_3_method_4_code 5 none).before start1.args0 kz_bad = true := su_hand_word (m := ⟨4, 3⟩) (by decide +kernel) rfl (by decide +kernel) (by decide +kernel)
theorem kz_code19 : (Jvm.Cond.code (⟨"KeyCurve$Prime", "addRow", "(J[JII)V"⟩ : Jvm.MethodName) prog_3_method_10_code 11 none).before start1.args0 kz_bad = true := su_hand_word (m := ⟨4, 9⟩) (by decide +kernel) rfl (by decide +kernel) (by decide +kernel)
theorem kz_code20 : (Jvm.Cond.code (⟨"KeyCurve$Prime", "takeHigh", "()Z"⟩ : Jvm.MethodName) prog_3_method_8_code 4 (some .boolean)).before start1.args0 kz_bad = true := su_hand_word (m := ⟨4, 7⟩) (by decide +kernel) rfl (by decide +kernel) (by decide +kernel)
theorem kz_code21 : (Jvm.Cond.code (⟨"KeyCurve$Prime", "fold", "()V"⟩ : Jvm.MethodName) prog_3_method_9_code 2 none).before start1.args0 kz_bad = true := su_hand_word (m := ⟨4, 8⟩) (by decide +kernel) rfl (by decide +kernel) (by decide +kernel)
theorem kz_code22 : (Jvm.Cond.code (⟨"KeyCurve$Words", "copy", "([J[J)V"⟩ : Jvm.MethodName) prog_5_method_2_code 2 none).before start1.args0 kz_bad = true := su_hand_word (m := ⟨7, 0⟩) (by decide +kernel) rfl (by decide +kernel) (by decide +kernel)
theorem kz_code23 : (Jvm.Cond.code (⟨"KeyCurve", "invert", "(IIZ)Z"⟩ : Jvm.MethodName) prog_1_method_7_code 4 (some .boolean)).before start1.args0 kz_bad = true := su_hand_word (m := ⟨2, 6⟩) (by decide +kernel) rfl (by decide +kernel) (by decide +kernel)
theorem kz_code24 : (Jvm.Cond.code (⟨"KeyCurve$Prime", "inverse", "([J[J)Z"⟩ : Jvm.MethodName) prog_3_method_6_code 3 (some .boolean)).before start1.args0 kz_bad = true := su_hand_word (m := ⟨4, 5⟩) (by decide +kernel) rfl (by decide +kernel) (by decide +kernel)
theorem kz_code25 : (Jvm.Cond.code (⟨"KeyCurve$Words", "isZero", "([J)Z"⟩ : Jvm.MethodName) prog_5_method_3_code 4 (some .boolean)).before start1.args0 kz_bad = true := su_hand_word (m := ⟨7, 1⟩) (by decide +kernel) rfl (by decide +kernel) (by decide +kernel)
theorem kz_code26 : (Jvm.Cond.code (⟨"KeyCurve$Prime", "power", "([J[J[J)V"⟩ : Jvm.MethodName) prog_3_method_5_code 5 none).before start1.args0 kz_bad = true := su_hand_word (m := ⟨4, 4⟩) (by decide +kernel) rfl (by decide +kernel) (by decide +kernel)
theorem kz_code27 : (Jvm.Cond.code (⟨"KeyCurve$Words", "hasBit", "([JI)Z"⟩ : Jvm.MethodName) prog_5_method_7_code 2 (some .boolean)).before start1.args0 kz_bad = true := su_hand_word (m := ⟨7, 5⟩) (by decide +kernel) rfl (by decide +kernel) (by decide +kernel)
theorem kz_code28 : (Jvm.Cond.code (⟨"KeyCurve", "root", "(II)Z"⟩ : Jvm.MethodName) prog_1_method_8_code 3 (some .boolean)).before start1.args0 kz_bad = true := su_hand_word (m := ⟨2, 7⟩) (by decide +kernel) rfl (by decide +kernel) (by decide +kernel)
theorem kz_code29 : (Jvm.Cond.code (⟨"KeyCurve$Curve", "evenRoot", "([J[J)Z"⟩ : Jvm.MethodName) prog_2_method_2_code 3 (some .boolean)).before start1.args0 kz_bad = true := su_hand_word (m := ⟨5, 1⟩) (by decide +kernel) rfl (by decide +kernel) (by decide +kernel)
theorem kz_code30 : (Jvm.Cond.code (⟨"KeyCurve$Words", "areEqual", "([J[J)Z"⟩ : Jvm.MethodName) prog_5_method_4_code 3 (some .boolean)).before start1.args0 kz_bad = true := su_hand_word (m := ⟨7, 2⟩) (by decide +kernel) rfl (by decide +kernel) (by decide +kernel)
theorem kz_code31 : (Jvm.Cond.code (⟨"KeyCurve$Words", "isOdd", "([J)Z"⟩ : Jvm.MethodName) prog_5_method_6_code 1 (some .boolean)).before start1.args0 kz_bad = true := su_hand_word (m := ⟨7, 4⟩) (by decide +kernel) rfl (by decide +kernel) (by decide +kernel)
theorem kz_code32 : (Jvm.Cond.code (⟨"KeyCurve", "base", "(I)V"⟩ : Jvm.MethodName) prog_1_method_9_code 2 none).before start1.args0 kz_bad = true := su_hand_word (m := ⟨2, 8⟩) (by decide +kernel) rfl (by decide +kernel) (by decide +kernel)
theorem kz_code33 : (Jvm.Cond.code (⟨"KeyCurve", "spot", "(I)LKeyCurve$Spot;"⟩ : Jvm.MethodName) prog_1_method_18_code 2 (some (.object "KeyCurve$Spot"))).before start1.args0 kz_bad = true := su_hand_word (m := ⟨2, 17⟩) (by decide +kernel) rfl (by decide +kernel) (by decide +kernel)
theorem kz_code34 : (Jvm.Cond.code (⟨"KeyCurve$Spot", "become", "([J[J)V"⟩ : Jvm.MethodName) prog_4_method_2_code 3 none).before start1.args0 kz_bad = true := su_hand_word (m := ⟨3, 1⟩) (by decide +kernel) rfl (by decide +kernel) (by decide +kernel)
theorem kz_code35 : (Jvm.Cond.code (⟨"KeyCurve", "none", "(I)V"⟩ : Jvm.MethodName) prog_1_method_10_code 2 none).before start1.args0 kz_bad = true := su_hand_word (m := ⟨2, 9⟩) (by decide +kernel) rfl (by decide +kernel) (by decide +kernel)
theorem kz_code36 : (Jvm.Cond.code (⟨"KeyCurve", "point", "(III)Z"⟩ : Jvm.MethodName) prog_1_method_11_code 4 (some .boolean)).before start1.args0 kz_bad = true := su_hand_word (m := ⟨2, 10⟩) (by decide +kernel) rfl (by decide +kernel) (by decide +kernel)
theorem kz_code37 : (Jvm.Cond.code (⟨"KeyCurve$Curve", "holds", "([J[J)Z"⟩ : Jvm.MethodName) prog_2_method_3_code 3 (some .boolean)).before start1.args0 kz_bad = true := su_hand_word (m := ⟨5, 2⟩) (by decide +kernel) rfl (by decide +kernel) (by decide +kernel)
theorem kz_code38 : (Jvm.Cond.code (⟨"KeyCurve$Curve", "putSquareOfY", "([J[J)V"⟩ : Jvm.MethodName) prog_2_method_5_code 3 none).before start1.args0 kz_bad = true := su_hand_word (m := ⟨5, 4⟩) (by decide +kernel) rfl (by decide +kernel) (by decide +kernel)
theorem kz_code39 : (Jvm.Cond.code (⟨"KeyCurve", "lift", "(IIZ)Z"⟩ : Jvm.MethodName) prog_1_method_12_code 4 (some .boolean)).before start1.args0 kz_bad = true := su_hand_word (m := ⟨2, 11⟩) (by decide +kernel) rfl (by decide +kernel) (by decide +kernel)
theorem kz_code40 : (Jvm.Cond.code (⟨"KeyCurve$Curve", "findByX", "(LKeyCurve$Spot;[JZ)Z"⟩ : Jvm.MethodName) prog_2_method_4_code 4 (some .boolean)).before start1.args0 kz_bad = true := su_hand_word (m := ⟨5, 3⟩) (by decide +kernel) rfl (by decide +kernel) (by decide +kernel)
theorem kz_code41 : (Jvm.Cond.code (⟨"KeyCurve", "plus", "(III)V"⟩ : Jvm.MethodName) prog_1_method_13_code 4 none).before start1.args0 kz_bad = true := su_hand_word (m := ⟨2, 12⟩) (by decide +kernel) rfl (by decide +kernel) (by decide +kernel)
theorem kz_code42 : (Jvm.Cond.code (⟨"KeyCurve$Curve", "start", "()V"⟩ : Jvm.MethodName) prog_2_method_6_code 2 none).before start1.args0 kz_bad = true := su_hand_word (m := ⟨5, 5⟩) (by decide +kernel) rfl (by decide +kernel) (by decide +kernel)
theorem kz_code43 : (Jvm.Cond.code (⟨"KeyCurve$Curve", "join", "(LKeyCurve$Spot;)V"⟩ : Jvm.MethodName) prog_2_method_8_code 2 none).before start1.args0 kz_bad = true := su_hand_word (m := ⟨5, 7⟩) (by decide +kernel) rfl (by decide +kernel) (by decide +kernel)
theorem kz_code44 : (Jvm.Cond.code (⟨"KeyCurve$Curve", "measureLine", "(LKeyCurve$Spot;)V"⟩ : Jvm.MethodName) prog_2_method_9_code 2 none).before start1.args0 kz_bad = true := su_hand_word (m := ⟨5, 8⟩) (by decide +kernel) rfl (by decide +kernel) (by decide +kernel)
theorem kz_code45 : (Jvm.Cond.code (⟨"KeyCurve$Curve", "followLine", "()V"⟩ : Jvm.MethodName) prog_2_method_10_code 1 none).before start1.args0 kz_bad = true := su_hand_word (m := ⟨5, 9⟩) (by decide +kernel) rfl (by decide +kernel) (by decide +kernel)
theorem kz_code46 : (Jvm.Cond.code (⟨"KeyCurve$Curve", "twice", "()V"⟩ : Jvm.MethodName) prog_2_method_11_code 1 none).before start1.args0 kz_bad = true := su_hand_word (m := ⟨5, 10⟩) (by decide +kernel) rfl (by decide +kernel) (by decide +kernel)
theorem kz_code47 : (Jvm.Cond.code (⟨"KeyCurve$Curve", "finish", "(LKeyCurve$Spot;)V"⟩ : Jvm.MethodName) prog_2_method_12_code 2 none).before start1.args0 kz_bad = true := su_hand_word (m := ⟨5, 11⟩) (by decide +kernel) rfl (by decide +kernel) (by decide +kernel)
theorem kz_code48 : (Jvm.Cond.code (⟨"KeyCurve", "times", "(III)V"⟩ : Jvm.MethodName) prog_1_method_14_code 4 none).before start1.args0 kz_bad = true := su_hand_word (m := ⟨2, 13⟩) (by decide +kernel) rfl (by decide +kernel) (by decide +kernel)
theorem kz_code49 : (Jvm.Cond.code (⟨"KeyCurve$Curve", "startMultiple", "(LKeyCurve$Spot;[J)V"⟩ : Jvm.MethodName) prog_2_method_7_code 4 none).before start1.args0 kz_bad = true := su_hand_word (m := ⟨5, 6⟩) (by decide +kernel) rfl (by decide +kernel) (by decide +kernel)
theorem kz_code50 : (Jvm.Cond.code (⟨"KeyCurve", "take", "(IIZ)Z"⟩ : Jvm.MethodName) prog_1_method_15_code 5 (some .boolean)).before start1.args0 kz_bad = true := su_hand_word (m := ⟨2, 14⟩) (by decide +kernel) rfl (by decide +kernel) (by decide +kernel)
theorem kz_code51 : (Jvm.Cond.code (⟨"KeyCurve", "same", "(II)Z"⟩ : Jvm.MethodName) prog_1_method_16_code 5 (some .boolean)).before start1.args0 kz_bad = true := su_hand_word (m := ⟨2, 15⟩) (by decide +kernel) rfl (by decide +kernel) (by decide +kernel)
theorem kz_code52 : (Jvm.Cond.code (⟨"KeyCurveModel", "<init>", "()V"⟩ : Jvm.MethodName) prog_7_method_1_code 1 none).before start1.args0 kz_bad = true := su_hand_word (m := ⟨6, 0⟩) (by decide +kernel) rfl (by decide +kernel) (by decide +kernel)
theorem kz_code53 : (Jvm.Cond.code (⟨"KeyCurveModel", "set", "(III)I"⟩ : Jvm.MethodName) prog_7_method_20_code 5 (some .int)).before start1.args0 kz_bad = true := su_hand_word (m := ⟨6, 18⟩) (by decide +kernel) rfl (by decide +kernel) (by decide +kernel)
theorem kz_code54 : (Jvm.Cond.code (⟨"KeyCurveModel", "get", "(II)I"⟩ : Jvm.MethodName) prog_7_method_21_code 3 (some .int)).before start1.args0 kz_bad = true := su_hand_word (m := ⟨6, 19⟩) (by decide +kernel) rfl (by decide +kernel) (by decide +kernel)
theorem kz_code55 : (Jvm.Cond.code (⟨"KeyCurveModel", "add", "(IIIZ)V"⟩ : Jvm.MethodName) prog_7_method_22_code 6 none).before start1.args0 kz_bad = true := su_hand_word (m := ⟨6, 20⟩) (by decide +kernel) rfl (by decide +kernel) (by decide +kernel)
theorem kz_code56 : (Jvm.Cond.code (⟨"KeyCurveModel", "below", "([IIZ)V"⟩ : Jvm.MethodName) prog_7_method_18_code 5 none).before start1.args0 kz_bad = true := su_hand_word (m := ⟨6, 16⟩) (by decide +kernel) rfl (by decide +kernel) (by decide +kernel)
theorem kz_code57 : (Jvm.Cond.code (⟨"KeyCurveModel", "copy", "([I[I)V"⟩ : Jvm.MethodName) prog_7_method_7_code 2 none).before start1.args0 kz_bad = true := su_hand_word (m := ⟨6, 5⟩) (by decide +kernel) rfl (by decide +kernel) (by decide +kernel)
theorem kz_code58 : (Jvm.Cond.code (⟨"KeyCurveModel", "compare", "([I[I)I"⟩ : Jvm.MethodName) prog_7_method_3_code 3 (some .int)).before start1.args0 kz_bad = true := su_hand_word (m := ⟨6, 1⟩) (by decide +kernel) rfl (by decide +kernel) (by decide +kernel)
theorem kz_code59 : (Jvm.Cond.code (⟨"java/lang/Integer", "compareUnsigned", "(II)I"⟩ : Jvm.MethodName) prog_9_method_41_code 2 (some .int)).before start1.args0 kz_bad = true := su_hand_word (m := ⟨9, 1⟩) (by decide +kernel) rfl (by decide +kernel) (by decide +kernel)
theorem kz_code60 : (Jvm.Cond.code (⟨"java/lang/Integer", "compare", "(II)I"⟩ : Jvm.MethodName) prog_9_method_40_code 2 (some .int)).before start1.args0 kz_bad = true := su_hand_word (m := ⟨9, 0⟩) (by decide +kernel) rfl (by decide +kernel) (by decide +kernel)
theorem kz_code61 : (Jvm.Cond.code (⟨"KeyCurveModel", "sub", "([I[I[I)I"⟩ : Jvm.MethodName) prog_7_method_6_code 6 (some .int)).before start1.args0 kz_bad = true := su_hand_word (m := ⟨6, 4⟩) (by decide +kernel) rfl (by decide +kernel) (by decide +kernel)
theorem kz_code62 : (Jvm.Cond.code (⟨"KeyCurveModel", "add", "([I[I[I)I"⟩ : Jvm.MethodName) prog_7_method_5_code 6 (some .int)).before start1.args0 kz_bad = true := su_hand_word (m := ⟨6, 3⟩) (by decide +kernel) rfl (by decide +kernel) (by decide +kernel)
theorem kz_code63 : (Jvm.Cond.code (⟨"KeyCurveModel", "subtract", "(IIIZ)V"⟩ : Jvm.MethodName) prog_7_method_23_code 5 none).before start1.args0 kz_bad = true := su_hand_word (m := ⟨6, 21⟩) (by decide +kernel) rfl (by decide +kernel) (by decide +kernel)
theorem kz_code64 : (Jvm.Cond.code (⟨"KeyCurveModel", "multiply", "(IIIZ)V"⟩ : Jvm.MethodName) prog_7_method_24_code 5 none).before start1.args0 kz_bad = true := su_hand_word (m := ⟨6, 22⟩) (by decide +kernel) rfl (by decide +kernel) (by decide +kernel)
theorem kz_code65 : (Jvm.Cond.code (⟨"KeyCurveModel", "timesN", "([I[I[I)V"⟩ : Jvm.MethodName) prog_7_method_16_code 6 none).before start1.args0 kz_bad = true := su_hand_word (m := ⟨6, 14⟩) (by decide +kernel) rfl (by decide +kernel) (by decide +kernel)
theorem kz_code66 : (Jvm.Cond.code (⟨"KeyCurveModel", "multiply", "([I[I)V"⟩ : Jvm.MethodName) prog_7_method_9_code 7 none).before start1.args0 kz_bad = true := su_hand_word (m := ⟨6, 7⟩) (by decide +kernel) rfl (by decide +kernel) (by decide +kernel)
theorem kz_code67 : (Jvm.Cond.code (⟨"KeyCurveModel", "times", "([I[I[I)V"⟩ : Jvm.MethodName) prog_7_method_10_code 9 none).before start1.args0 kz_bad = true := su_hand_word (m := ⟨6, 8⟩) (by decide +kernel) rfl (by decide +kernel) (by decide +kernel)
theorem kz_code68 : (Jvm.Cond.code (⟨"KeyCurveModel", "invert", "(IIZ)Z"⟩ : Jvm.MethodName) prog_7_method_25_code 4 (some .boolean)).before start1.args0 kz_bad = true := su_hand_word (m := ⟨6, 23⟩) (by decide +kernel) rfl (by decide +kernel) (by decide +kernel)
theorem kz_code69 : (Jvm.Cond.code (⟨"KeyCurveModel", "isZero", "([I)Z"⟩ : Jvm.MethodName) prog_7_method_4_code 2 (some .boolean)).before start1.args0 kz_bad = true := su_hand_word (m := ⟨6, 2⟩) (by decide +kernel) rfl (by decide +kernel) (by decide +kernel)
theorem kz_code70 : (Jvm.Cond.code (⟨"KeyCurveModel", "inverse", "([I[I[I)V"⟩ : Jvm.MethodName) prog_7_method_15_code 5 none).before start1.args0 kz_bad = true := su_hand_word (m := ⟨6, 13⟩) (by decide +kernel) rfl (by decide +kernel) (by decide +kernel)
theorem kz_code71 : (Jvm.Cond.code (⟨"KeyCurveModel", "isOne", "([I)Z"⟩ : Jvm.MethodName) prog_7_method_14_code 2 (some .boolean)).before start1.args0 kz_bad = true := su_hand_word (m := ⟨6, 12⟩) (by decide +kernel) rfl (by decide +kernel) (by decide +kernel)
theorem kz_code72 : (Jvm.Cond.code (⟨"KeyCurveModel", "half", "([II)V"⟩ : Jvm.MethodName) prog_7_method_13_code 3 none).before start1.args0 kz_bad = true := su_hand_word (m := ⟨6, 11⟩) (by decide +kernel) rfl (by decide +kernel) (by decide +kernel)
theorem kz_code73 : (Jvm.Cond.code (⟨"KeyCurveModel", "root", "(II)Z"⟩ : Jvm.MethodName) prog_7_method_27_code 3 (some .boolean)).before start1.args0 kz_bad = true := su_hand_word (m := ⟨6, 25⟩) (by decide +kernel) rfl (by decide +kernel) (by decide +kernel)
theorem kz_code74 : (Jvm.Cond.code (⟨"KeyCurveModel", "isRoot", "([I[I)Z"⟩ : Jvm.MethodName) prog_7_method_26_code 4 (some .boolean)).before start1.args0 kz_bad = true := su_hand_word (m := ⟨6, 24⟩) (by decide +kernel) rfl (by decide +kernel) (by decide +kernel)
theorem kz_code75 : (Jvm.Cond.code (⟨"KeyCurveModel", "bit", "([II)I"⟩ : Jvm.MethodName) prog_7_method_8_code 2 (some .int)).before start1.args0 kz_bad = true := su_hand_word (m := ⟨6, 6⟩) (by decide +kernel) rfl (by decide +kernel) (by decide +kernel)
theorem kz_code76 : (Jvm.Cond.code (⟨"KeyCurveModel", "isEven", "([I)Z"⟩ : Jvm.MethodName) prog_7_method_19_code 1 (some .boolean)).before start1.args0 kz_bad = true := su_hand_word (m := ⟨6, 17⟩) (by decide +kernel) rfl (by decide +kernel) (by decide +kernel)
theorem kz_code77 : (Jvm.Cond.code (⟨"KeyCurveModel", "base", "(I)V"⟩ : Jvm.MethodName) prog_7_method_29_code 2 none).before start1.args0 kz_bad = true := su_hand_word (m := ⟨6, 27⟩) (by decide +kernel) rfl (by decide +kernel) (by decide +kernel)
theorem kz_code78 : (Jvm.Cond.code (⟨"KeyCurveModel", "keep", "(I[I[I)V"⟩ : Jvm.MethodName) prog_7_method_28_code 4 none).before start1.args0 kz_bad = true := su_hand_word (m := ⟨6, 26⟩) (by decide +kernel) rfl (by decide +kernel) (by decide +kernel)
theorem kz_code79 : (Jvm.Cond.code (⟨"KeyCurveModel", "none", "(I)V"⟩ : Jvm.MethodName) prog_7_method_30_code 2 none).before start1.args0 kz_bad = true := su_hand_word (m := ⟨6, 28⟩) (by decide +kernel) rfl (by decide +kernel) (by decide +kernel)
theorem kz_code80 : (Jvm.Cond.code (⟨"KeyCurveModel", "point", "(III)Z"⟩ : Jvm.MethodName) prog_7_method_32_code 6 (some .boolean)).before start1.args0 kz_bad = true := su_hand_word (m := ⟨6, 30⟩) (by decide +kernel) rfl (by decide +kernel) (by decide +kernel)
theorem kz_code81 : (Jvm.Cond.code (⟨"KeyCurveModel", "square", "([I)V"⟩ : Jvm.MethodName) prog_7_method_31_code 3 none).before start1.args0 kz_bad = true := su_hand_word (m := ⟨6, 29⟩) (by decide +kernel) rfl (by decide +kernel) (by decide +kernel)
theorem kz_code82 : (Jvm.Cond.code (⟨"KeyCurveModel", "plus", "([I[I[I)V"⟩ : Jvm.MethodName) prog_7_method_12_code 3 none).before start1.args0 kz_bad = true := su_hand_word (m := ⟨6, 10⟩) (by decide +kernel) rfl (by decide +kernel) (by decide +kernel)
theorem kz_code83 : (Jvm.Cond.code (⟨"KeyCurveModel", "lift", "(IIZ)Z"⟩ : Jvm.MethodName) prog_7_method_33_code 5 (some .boolean)).before start1.args0 kz_bad = true := su_hand_word (m := ⟨6, 31⟩) (by decide +kernel) rfl (by decide +kernel) (by decide +kernel)
theorem kz_code84 : (Jvm.Cond.code (⟨"KeyCurveModel", "plus", "(III)V"⟩ : Jvm.MethodName) prog_7_method_36_code 4 none).before start1.args0 kz_bad = true := su_hand_word (m := ⟨6, 34⟩) (by decide +kernel) rfl (by decide +kernel) (by decide +kernel)
theorem kz_code85 : (Jvm.Cond.code (⟨"KeyCurveModel", "load", "(I)V"⟩ : Jvm.MethodName) prog_7_method_34_code 2 none).before start1.args0 kz_bad = true := su_hand_word (m := ⟨6, 32⟩) (by decide +kernel) rfl (by decide +kernel) (by decide +kernel)
theorem kz_code86 : (Jvm.Cond.code (⟨"KeyCurveModel", "more", "([I[I)V"⟩ : Jvm.MethodName) prog_7_method_37_code 3 none).before start1.args0 kz_bad = true := su_hand_word (m := ⟨6, 35⟩) (by decide +kernel) rfl (by decide +kernel) (by decide +kernel)
theorem kz_code87 : (Jvm.Cond.code (⟨"KeyCurveModel", "join", "([I[IZ)V"⟩ : Jvm.MethodName) prog_7_method_17_code 5 none).before start1.args0 kz_bad = true := su_hand_word (m := ⟨6, 15⟩) (by decide +kernel) rfl (by decide +kernel) (by decide +kernel)
theorem kz_code88 : (Jvm.Cond.code (⟨"KeyCurveModel", "minus", "([I[I[I)V"⟩ : Jvm.MethodName) prog_7_method_11_code 3 none).before start1.args0 kz_bad = true := su_hand_word (m := ⟨6, 9⟩) (by decide +kernel) rfl (by decide +kernel) (by decide +kernel)
theorem kz_code89 : (Jvm.Cond.code (⟨"KeyCurveModel", "store", "(I)V"⟩ : Jvm.MethodName) prog_7_method_35_code 2 none).before start1.args0 kz_bad = true := su_hand_word (m := ⟨6, 33⟩) (by decide +kernel) rfl (by decide +kernel) (by decide +kernel)
theorem kz_code90 : (Jvm.Cond.code (⟨"KeyCurveModel", "times", "(III)V"⟩ : Jvm.MethodName) prog_7_method_38_code 5 none).before start1.args0 kz_bad = true := su_hand_word (m := ⟨6, 36⟩) (by decide +kernel) rfl (by decide +kernel) (by decide +kernel)
theorem kz_code91 : (Jvm.Cond.code (⟨"KeyCurveModel", "take", "(IIZ)Z"⟩ : Jvm.MethodName) prog_7_method_39_code 4 (some .boolean)).before start1.args0 kz_bad = true := su_hand_word (m := ⟨6, 37⟩) (by decide +kernel) rfl (by decide +kernel) (by decide +kernel)
theorem kz_code92 : (Jvm.Cond.code (⟨"KeyCurveModel", "same", "(II)Z"⟩ : Jvm.MethodName) prog_7_method_40_code 3 (some .boolean)).before start1.args0 kz_bad = true := su_hand_word (m := ⟨6, 38⟩) (by decide +kernel) rfl (by decide +kernel) (by decide +kernel)
theorem kz_codes_hold_1 : ∀ c ∈ tables_1_1.filter su_isCode, c.before start1.args0 kz_bad = true := by
  rw [start1.codes_are_1]
  exact List.forall_mem_cons.mpr ⟨kz_code0, List.forall_mem_cons.mpr ⟨kz_code1, List.forall_mem_cons.mpr ⟨kz_code2, List.forall_mem_cons.mpr ⟨kz_code3, List.forall_mem_cons.mpr ⟨kz_code4, List.forall_mem_cons.mpr ⟨kz_code5, List.forall_mem_cons.mpr ⟨kz_code6, List.forall_mem_cons.mpr ⟨kz_code7, List.forall_mem_cons.mpr ⟨kz_code8, List.forall_mem_cons.mpr ⟨kz_code9, List.forall_mem_cons.mpr ⟨kz_code10, List.forall_mem_cons.mpr ⟨kz_code11, List.forall_mem_cons.mpr ⟨kz_code12, List.forall_mem_cons.mpr ⟨kz_code13, List.forall_mem_cons.mpr ⟨kz_code14, List.forall_mem_cons.mpr ⟨kz_code15, List.forall_mem_cons.mpr ⟨kz_code16, List.forall_mem_cons.mpr ⟨kz_code17, List.forall_mem_cons.mpr ⟨kz_code18, List.forall_mem_cons.mpr ⟨kz_code19, List.forall_mem_cons.mpr ⟨kz_code20, List.forall_mem_cons.mpr ⟨kz_code21, List.forall_mem_cons.mpr ⟨kz_code22, List.forall_mem_cons.mpr ⟨kz_code23, List.forall_mem_cons.mpr ⟨kz_code24, List.forall_mem_cons.mpr ⟨kz_code25, List.forall_mem_nil _⟩⟩⟩⟩⟩⟩⟩⟩⟩⟩⟩⟩⟩⟩⟩⟩⟩⟩⟩⟩⟩⟩⟩⟩⟩⟩
set_option maxRecDepth 16384 in
theorem kz_others_1_0 : (tables_1_1.take 40).all (fun c => su_isCode c || c.before start1.args0 kz_bad) = true := by decide +kernel
set_option maxRecDepth 16384 in
theorem kz_others_1_1 : ((tables_1_1.drop 40).take 40).all (fun c => su_isCode c || c.before start1.args0 kz_bad) = true := by decide +kernel
set_option maxRecDepth 16384 in
theorem kz_others_1_2 : (((tables_1_1.drop 40).drop 40).take 40).all (fun c => su_isCode c || c.before start1.args0 kz_bad) = true := by decide +kernel
set_option maxRecDepth 16384 in
theorem kz_others_1_3 : ((((tables_1_1.drop 40).drop 40).drop 40).take 40).all (fun c => su_isCode c || c.before start1.args0 kz_bad) = true := by decide +kernel
set_option maxRecDepth 16384 in
theorem kz_others_1_4 : (((((tables_1_1.drop 40).drop 40).drop 40).drop 40).take 40).all (fun c => su_isCode c || c.before start1.args0 kz_bad) = true := by decide +kernel
set_option maxRecDepth 16384 in
theorem kz_others_1_5 : (((((tables_1_1.drop 40).drop 40).drop 40).drop 40).drop 40).all (fun c => su_isCode c || c.before start1.args0 kz_bad) = true := by decide +kernel
theorem kz_others_hold_1 : tables_1_1.all (fun c => su_isCode c || c.before start1.args0 kz_bad) = true := start1.su_all_split _ 40 tables_1_1 kz_others_1_0 (start1.su_all_split _ 40 (tables_1_1.drop 40) kz_others_1_1 (start1.su_all_split _ 40 ((tables_1_1.drop 40).drop 40) kz_others_1_2 (start1.su_all_split _ 40 (((tables_1_1.drop 40).drop 40).drop 40) kz_others_1_3 (start1.su_all_split _ 40 ((((tables_1_1.drop 40).drop 40).drop 40).drop 40) kz_others_1_4 kz_others_1_5))))
theorem kz_words_1 : ∀ c ∈ tables_1_1, c.before start1.args0 kz_bad = true := fun c h => su_words kz_others_hold_1 kz_codes_hold_1 c h
theorem kz_codes_hold_2 : ∀ c ∈ tables_1_2.filter su_isCode, c.before start1.args0 kz_bad = true := by
  rw [start1.codes_are_2]
  exact List.forall_mem_cons.mpr ⟨kz_code26, List.forall_mem_cons.mpr ⟨kz_code27, List.forall_mem_cons.mpr ⟨kz_code28, List.forall_mem_cons.mpr ⟨kz_code29, List.forall_mem_cons.mpr ⟨kz_code30, List.forall_mem_cons.mpr ⟨kz_code31, List.forall_mem_cons.mpr ⟨kz_code32, List.forall_mem_cons.mpr ⟨kz_code33, List.forall_mem_cons.mpr ⟨kz_code34, List.forall_mem_cons.mpr ⟨kz_code35, List.forall_mem_cons.mpr ⟨kz_code36, List.forall_mem_cons.mpr ⟨kz_code37, List.forall_mem_cons.mpr ⟨kz_code38, List.forall_mem_cons.mpr ⟨kz_code39, List.forall_mem_cons.mpr ⟨kz_code40, List.forall_mem_cons.mpr ⟨kz_code41, List.forall_mem_cons.mpr ⟨kz_code42, List.forall_mem_cons.mpr ⟨kz_code43, List.forall_mem_cons.mpr ⟨kz_code44, List.forall_mem_cons.mpr ⟨kz_code45, List.forall_mem_cons.mpr ⟨kz_code46, List.forall_mem_cons.mpr ⟨kz_code47, List.forall_mem_cons.mpr ⟨kz_code48, List.forall_mem_cons.mpr ⟨kz_code49, List.forall_mem_cons.mpr ⟨kz_code50, List.forall_mem_cons.mpr ⟨kz_code51, List.forall_mem_cons.mpr ⟨kz_code52, List.forall_mem_cons.mpr ⟨kz_code53, List.forall_mem_cons.mpr ⟨kz_code54, List.forall_mem_cons.mpr ⟨kz_code55, List.forall_mem_cons.mpr ⟨kz_code56, List.forall_mem_cons.mpr ⟨kz_code57, List.forall_mem_cons.mpr ⟨kz_code58, List.forall_mem_cons.mpr ⟨kz_code59, List.forall_mem_cons.mpr ⟨kz_code60, List.forall_mem_cons.mpr ⟨kz_code61, List.forall_mem_cons.mpr ⟨kz_code62, List.forall_mem_nil _⟩⟩⟩⟩⟩⟩⟩⟩⟩⟩⟩⟩⟩⟩⟩⟩⟩⟩⟩⟩⟩⟩⟩⟩⟩⟩⟩⟩⟩⟩⟩⟩⟩⟩⟩⟩⟩
set_option maxRecDepth 16384 in
theorem kz_others_2_0 : (tables_1_2.take 40).all (fun c => su_isCode c || c.before start1.args0 kz_bad) = true := by decide +kernel
set_option maxRecDepth 16384 in
theorem kz_others_2_1 : ((tables_1_2.drop 40).take 40).all (fun c => su_isCode c || c.before start1.args0 kz_bad) = true := by decide +kernel
set_option maxRecDepth 16384 in
theorem kz_others_2_2 : (((tables_1_2.drop 40).drop 40).take 40).all (fun c => su_isCode c || c.before start1.args0 kz_bad) = true := by decide +kernel
set_option maxRecDepth 16384 in
theorem kz_others_2_3 : ((((tables_1_2.drop 40).drop 40).drop 40).take 40).all (fun c => su_isCode c || c.before start1.args0 kz_bad) = true := by decide +kernel
set_option maxRecDepth 16384 in
theorem kz_others_2_4 : (((((tables_1_2.drop 40).drop 40).drop 40).drop 40).take 40).all (fun c => su_isCode c || c.before start1.args0 kz_bad) = true := by decide +kernel
set_option maxRecDepth 16384 in
theorem kz_others_2_5 : (((((tables_1_2.drop 40).drop 40).drop 40).drop 40).drop 40).all (fun c => su_isCode c || c.before start1.args0 kz_bad) = true := by decide +kernel
theorem kz_others_hold_2 : tables_1_2.all (fun c => su_isCode c || c.before start1.args0 kz_bad) = true := start1.su_all_split _ 40 tables_1_2 kz_others_2_0 (start1.su_all_split _ 40 (tables_1_2.drop 40) kz_others_2_1 (start1.su_all_split _ 40 ((tables_1_2.drop 40).drop 40) kz_others_2_2 (start1.su_all_split _ 40 (((tables_1_2.drop 40).drop 40).drop 40) kz_others_2_3 (start1.su_all_split _ 40 ((((tables_1_2.drop 40).drop 40).drop 40).drop 40) kz_others_2_4 kz_others_2_5))))
theorem kz_words_2 : ∀ c ∈ tables_1_2, c.before start1.args0 kz_bad = true := fun c h => su_words kz_others_hold_2 kz_codes_hold_2 c h
theorem kz_codes_hold_3 : ∀ c ∈ tables_1_3.filter su_isCode, c.before start1.args0 kz_bad = true := by
  rw [start1.codes_are_3]
  exact List.forall_mem_cons.mpr ⟨kz_code63, List.forall_mem_cons.mpr ⟨kz_code64, List.forall_mem_cons.mpr ⟨kz_code65, List.forall_mem_cons.mpr ⟨kz_code66, List.forall_mem_cons.mpr ⟨kz_code67, List.forall_mem_cons.mpr ⟨kz_code68, List.forall_mem_cons.mpr ⟨kz_code69, List.forall_mem_cons.mpr ⟨kz_code70, List.forall_mem_cons.mpr ⟨kz_code71, List.forall_mem_cons.mpr ⟨kz_code72, List.forall_mem_cons.mpr ⟨kz_code73, List.forall_mem_cons.mpr ⟨kz_code74, List.forall_mem_cons.mpr ⟨kz_code75, List.forall_mem_cons.mpr ⟨kz_code76, List.forall_mem_cons.mpr ⟨kz_code77, List.forall_mem_cons.mpr ⟨kz_code78, List.forall_mem_cons.mpr ⟨kz_code79, List.forall_mem_cons.mpr ⟨kz_code80, List.forall_mem_cons.mpr ⟨kz_code81, List.forall_mem_cons.mpr ⟨kz_code82, List.forall_mem_cons.mpr ⟨kz_code83, List.forall_mem_cons.mpr ⟨kz_code84, List.forall_mem_cons.mpr ⟨kz_code85, List.forall_mem_cons.mpr ⟨kz_code86, List.forall_mem_cons.mpr ⟨kz_code87, List.forall_mem_cons.mpr ⟨kz_code88, List.forall_mem_cons.mpr ⟨kz_code89, List.forall_mem_cons.mpr ⟨kz_code90, List.forall_mem_cons.mpr ⟨kz_code91, List.forall_mem_cons.mpr ⟨kz_code92, List.forall_mem_nil _⟩⟩⟩⟩⟩⟩⟩⟩⟩⟩⟩⟩⟩⟩⟩⟩⟩⟩⟩⟩⟩⟩⟩⟩⟩⟩⟩⟩⟩⟩
set_option maxRecDepth 16384 in
theorem kz_others_3_0 : (tables_1_3.take 40).all (fun c => su_isCode c || c.before start1.args0 kz_bad) = true := by decide +kernel
set_option maxRecDepth 16384 in
theorem kz_others_3_1 : ((tables_1_3.drop 40).take 40).all (fun c => su_isCode c || c.before start1.args0 kz_bad) = true := by decide +kernel
set_option maxRecDepth 16384 in
theorem kz_others_3_2 : ((tables_1_3.drop 40).drop 40).all (fun c => su_isCode c || c.before start1.args0 kz_bad) = true := by decide +kernel
theorem kz_others_hold_3 : tables_1_3.all (fun c => su_isCode c || c.before start1.args0 kz_bad) = true := start1.su_all_split _ 40 tables_1_3 kz_others_3_0 (start1.su_all_split _ 40 (tables_1_3.drop 40) kz_others_3_1 kz_others_3_2)
theorem kz_words_3 : ∀ c ∈ tables_1_3, c.before start1.args0 kz_bad = true := fun c h => su_words kz_others_hold_3 kz_codes_hold_3 c h
theorem kz_words : ∀ c ∈ (Cond.code x code maxLocals ret :: tables_1), c.before start1.args0 kz_bad = true := by
  intro c hc
  rcases List.mem_cons.mp hc with h | h
  · rw [h]; exact kz_word_code
  · have h1 : c ∈ tables_1_1 ++ (tables_1_2 ++ (tables_1_3)) := h
    rcases List.mem_append.mp h1 with h2 | h1
    · exact kz_words_1 c h2
    rcases List.mem_append.mp h1 with h2 | h1
    · exact kz_words_2 c h2
    exact kz_words_3 c h1
set_option maxRecDepth 16384 in
/-- every premise of the statement holds at this start -/
theorem kz_start : AtStart classFile x code maxLocals ret World_1 tables_1 room_1 Calls_1 rest_1 Pre_1 launch0 start1.p0 start1.e0 kz_bad ⟨0, 0⟩ start1.args0 Lib.HandBits.below0 :=
  ⟨lists_1, trivial, launch0.admits_env _ _ _, launch0.least_env, fairChoices_fair.cas, fairChoices_fair.clock, rfl, by decide +kernel, by decide +kernel,
    (Spec.applies_iff rfl).mpr ⟨rfl, rfl, rfl, by decide +kernel, by decide +kernel, by decide +kernel, launch0.hasRoom_least _ room_1 (by decide +kernel) (by decide +kernel) (by decide +kernel) (by decide +kernel) (by decide +kernel) (by decide +kernel), atoms_intro kz_words⟩,
    trivial, (show rest_1_c.before start1.args0 kz_bad = true by decide +kernel), (show (Cond.and given_1 narrow_1).before start1.args0 kz_bad = true by decide +kernel)⟩
end
section
/-! The statement is false at that start (own rows). -/
def kz_step (s : State) : State := stepsAlone start1.p0.tables start1.e0 1 s
/-- until the thread is at its floor: is the old cell 3 then another than it was? -/
def kz_end : Nat → State → Bool
  | 0, _ => false
  | n + 1, s => match decide (2 ≤ s.frames.length) with
    | true => kz_end n (kz_step s)
    | false => match decide (s.heap[3]?.bind (·.slots[0]?) = some (.long 4294966319)) with
      | true => false
      | false => true
theorem kz_run : kz_end 900 kz_bad = true := by decide +kernel
theorem kz_next (n : Nat) (s : State) : stepsAlone start1.p0.tables start1.e0 n (kz_step s) = stepsAlone start1.p0.tables start1.e0 (1 + n) s := (stepsAlone_add start1.p0.tables start1.e0 1 n s).symm
theorem kz_ends : ∀ (m : Nat) (s : State), kz_end m s = true → ∃ N, (∀ k, k < N → 2 ≤ (stepsAlone start1.p0.tables start1.e0 k s).frames.length) ∧ ¬ 2 ≤ (stepsAlone start1.p0.tables start1.e0 N s).frames.length ∧ (stepsAlone start1.p0.tables start1.e0 N s).heap[3]?.bind (·.slots[0]?) ≠ some (.long 4294966319) := by
  intro m
  induction m with
  | zero =>
    intro s h
    cases h
  | succ m ih =>
    intro s h
    unfold kz_end at h
    by_cases h2 : 2 ≤ s.frames.length
    · rw [decide_eq_true h2] at h
      obtain ⟨N, a1, a2, a3⟩ := ih (kz_step s) h
      refine ⟨1 + N, fun k hk => ?_, ?_, ?_⟩
      · cases k with
        | zero => exact h2
        | succ k =>
          have q := a1 k (by omega)
          rw [kz_next, Nat.add_comm] at q
          exact q
      · rw [kz_next] at a2
        exact a2
      · rw [kz_next] at a3
        exact a3
    · rw [decide_eq_false h2] at h
      refine ⟨0, fun k hk => absurd hk (Nat.not_lt_zero k), h2, fun q => ?_⟩
      have q : s.heap[3]?.bind (·.slots[0]?) = some (.long 4294966319) := q
      rw [decide_eq_true q] at h
      cases h
/-- what the statement says of that start -/
theorem kz_says (h : Claimed_1_1) : ∃ (n : Nat) (o : Outcome), (∀ k, k < n → Within (stepsAlone start1.p0.tables start1.e0 k kz_bad) Lib.HandBits.below0) ∧ Ended (stepsAlone start1.p0.tables start1.e0 n kz_bad) Lib.HandBits.below0 o ∧ Framed kz_bad o (stepsAlone start1.p0.tables start1.e0 n kz_bad) [] 600000 7302250 := by
  obtain ⟨s1, s2, s3, s4, s5, s6, s7, s8, s9, s10, s11, s12, s13⟩ := kz_start
  obtain ⟨n, o, h1, h2, h3, h4⟩ := h launch0 rfl s1 s2 start1.p0 start1.e0 s3 s5 s6 kz_bad ⟨0, 0⟩ start1.args0 Lib.HandBits.below0 s7 s8 s9 s10 ⟨s11, s12, s13⟩
  exact ⟨n, o, h1, h3, h4.2⟩
/-- THE STATEMENT IS FALSE AS IT IS WRITTEN -/
theorem p16_false_as_written : ¬ (Claimed_1_1 ∧ Claimed_1_2) := by
  intro h
  obtain ⟨n, o, hw, he, hf⟩ := kz_says h.1
  obtain ⟨N, a1, a2, a3⟩ := kz_ends 900 kz_bad kz_run
  obtain ⟨⟨v, rfl⟩, -, hsame⟩ := hf
  have hlen : (stepsAlone start1.p0.tables start1.e0 n kz_bad).frames.length = 1 := by
    have he1 : (stepsAlone start1.p0.tables start1.e0 n kz_bad).frames = _ := he
    rw [he1]
    rfl
  have hnN : n = N := by
    rcases Nat.lt_trichotomy n N with q | q | q
    · have := a1 n q
      omega
    · exact q
    · obtain ⟨above, b1, b2, -⟩ := hw N q
      exfalso
      apply a2
      rw [b1, List.length_append]
      have : above.length ≠ 0 := fun z => b2 (List.length_eq_zero_iff.mp z)
      show 2 ≤ above.length + 1
      omega
  subst hnN
  obtain ⟨c1, d1, -, -, d2⟩ := hsame.2.2.2.2.2 3 _ (show kz_bad.heap[3]? = some { cls := 20, slots := #[.long (4294966319), .long (4294967294), .long (4294967295), .long (4294967295), .long (4294967295), .long (4294967295), .long (4294967295), .long (4294967295)], vm := .none } from rfl)
  apply a3
  have d1 : (stepsAlone start1.p0.tables start1.e0 n kz_bad).heap[3]? = some c1 := d1
  rw [d1]
  exact d2 0 (fun q => by cases q)
end
