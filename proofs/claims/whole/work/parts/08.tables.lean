/-- a private method of a class that the tables say can be made, by its rows of tables_1 -/
def lw_okq (q : MethodName × Nat) : Prop := (q.1.cls ≠ "java/lang/invoke/MethodHandle" ∧ q.1.cls ≠ "java/lang/invoke/VarHandle") ∧ Cond.instantiable q.1.cls q.2 ∈ tables_1 ∧ Cond.privateMethod q.1 ∈ tables_1 ∧ Cond.instanceMethod q.1 ∈ tables_1
theorem lw_p0 : lw_okq (⟨"KeyCurve", "register", "(I)[J"⟩, 5) := ⟨⟨by decide +kernel, by decide +kernel⟩, List.mem_of_getElem? (i := 10) (by decide +kernel), List.mem_of_getElem? (i := 157) (by decide +kernel), List.mem_of_getElem? (i := 158) (by decide +kernel)⟩
theorem lw_p1 : lw_okq (⟨"KeyCurve", "prime", "(Z)LKeyCurve$Prime;"⟩, 5) := ⟨⟨by decide +kernel, by decide +kernel⟩, List.mem_of_getElem? (i := 10) (by decide +kernel), List.mem_of_getElem? (i := 170) (by decide +kernel), List.mem_of_getElem? (i := 171) (by decide +kernel)⟩
theorem lw_p2 : lw_okq (⟨"KeyCurve$Prime", "addRow", "(J[JII)V"⟩, 9) := ⟨⟨by decide +kernel, by decide +kernel⟩, List.mem_of_getElem? (i := 44) (by decide +kernel), List.mem_of_getElem? (i := 208) (by decide +kernel), List.mem_of_getElem? (i := 209) (by decide +kernel)⟩
theorem lw_p3 : lw_okq (⟨"KeyCurve$Prime", "takeHigh", "()Z"⟩, 9) := ⟨⟨by decide +kernel, by decide +kernel⟩, List.mem_of_getElem? (i := 44) (by decide +kernel), List.mem_of_getElem? (i := 213) (by decide +kernel), List.mem_of_getElem? (i := 214) (by decide +kernel)⟩
theorem lw_p4 : lw_okq (⟨"KeyCurve$Prime", "fold", "()V"⟩, 9) := ⟨⟨by decide +kernel, by decide +kernel⟩, List.mem_of_getElem? (i := 44) (by decide +kernel), List.mem_of_getElem? (i := 217) (by decide +kernel), List.mem_of_getElem? (i := 218) (by decide +kernel)⟩
theorem lw_p5 : lw_okq (⟨"KeyCurve", "spot", "(I)LKeyCurve$Spot;"⟩, 5) := ⟨⟨by decide +kernel, by decide +kernel⟩, List.mem_of_getElem? (i := 10) (by decide +kernel), List.mem_of_getElem? (i := 274) (by decide +kernel), List.mem_of_getElem? (i := 275) (by decide +kernel)⟩
theorem lw_p6 : lw_okq (⟨"KeyCurve$Curve", "putSquareOfY", "([J[J)V"⟩, 12) := ⟨⟨by decide +kernel, by decide +kernel⟩, List.mem_of_getElem? (i := 94) (by decide +kernel), List.mem_of_getElem? (i := 300) (by decide +kernel), List.mem_of_getElem? (i := 301) (by decide +kernel)⟩
theorem lw_p7 : lw_okq (⟨"KeyCurve$Curve", "measureLine", "(LKeyCurve$Spot;)V"⟩, 12) := ⟨⟨by decide +kernel, by decide +kernel⟩, List.mem_of_getElem? (i := 94) (by decide +kernel), List.mem_of_getElem? (i := 331) (by decide +kernel), List.mem_of_getElem? (i := 332) (by decide +kernel)⟩
theorem lw_p8 : lw_okq (⟨"KeyCurve$Curve", "followLine", "()V"⟩, 12) := ⟨⟨by decide +kernel, by decide +kernel⟩, List.mem_of_getElem? (i := 94) (by decide +kernel), List.mem_of_getElem? (i := 335) (by decide +kernel), List.mem_of_getElem? (i := 336) (by decide +kernel)⟩
theorem lw_p9 : lw_okq (⟨"KeyCurve$Curve", "twice", "()V"⟩, 12) := ⟨⟨by decide +kernel, by decide +kernel⟩, List.mem_of_getElem? (i := 94) (by decide +kernel), List.mem_of_getElem? (i := 339) (by decide +kernel), List.mem_of_getElem? (i := 340) (by decide +kernel)⟩
theorem lw_p10 : lw_okq (⟨"KeyCurveModel", "below", "([IIZ)V"⟩, 20) := ⟨⟨by decide +kernel, by decide +kernel⟩, List.mem_of_getElem? (i := 369) (by decide +kernel), List.mem_of_getElem? (i := 456) (by decide +kernel), List.mem_of_getElem? (i := 457) (by decide +kernel)⟩
theorem lw_p11 : lw_okq (⟨"KeyCurveModel", "timesN", "([I[I[I)V"⟩, 20) := ⟨⟨by decide +kernel, by decide +kernel⟩, List.mem_of_getElem? (i := 369) (by decide +kernel), List.mem_of_getElem? (i := 489) (by decide +kernel), List.mem_of_getElem? (i := 490) (by decide +kernel)⟩
theorem lw_p12 : lw_okq (⟨"KeyCurveModel", "multiply", "([I[I)V"⟩, 20) := ⟨⟨by decide +kernel, by decide +kernel⟩, List.mem_of_getElem? (i := 369) (by decide +kernel), List.mem_of_getElem? (i := 493) (by decide +kernel), List.mem_of_getElem? (i := 494) (by decide +kernel)⟩
theorem lw_p13 : lw_okq (⟨"KeyCurveModel", "times", "([I[I[I)V"⟩, 20) := ⟨⟨by decide +kernel, by decide +kernel⟩, List.mem_of_getElem? (i := 369) (by decide +kernel), List.mem_of_getElem? (i := 497) (by decide +kernel), List.mem_of_getElem? (i := 498) (by decide +kernel)⟩
theorem lw_p14 : lw_okq (⟨"KeyCurveModel", "inverse", "([I[I[I)V"⟩, 20) := ⟨⟨by decide +kernel, by decide +kernel⟩, List.mem_of_getElem? (i := 369) (by decide +kernel), List.mem_of_getElem? (i := 509) (by decide +kernel), List.mem_of_getElem? (i := 510) (by decide +kernel)⟩
theorem lw_p15 : lw_okq (⟨"KeyCurveModel", "isRoot", "([I[I)Z"⟩, 20) := ⟨⟨by decide +kernel, by decide +kernel⟩, List.mem_of_getElem? (i := 369) (by decide +kernel), List.mem_of_getElem? (i := 523) (by decide +kernel), List.mem_of_getElem? (i := 524) (by decide +kernel)⟩
def lw_privs_1 : List (MethodName × Nat) := [(⟨"KeyCurve", "register", "(I)[J"⟩, 5), (⟨"KeyCurve", "prime", "(Z)LKeyCurve$Prime;"⟩, 5), (⟨"KeyCurve$Prime", "addRow", "(J[JII)V"⟩, 9), (⟨"KeyCurve$Prime", "takeHigh", "()Z"⟩, 9), (⟨"KeyCurve$Prime", "fold", "()V"⟩, 9), (⟨"KeyCurve", "spot", "(I)LKeyCurve$Spot;"⟩, 5), (⟨"KeyCurve$Curve", "putSquareOfY", "([J[J)V"⟩, 12), (⟨"KeyCurve$Curve", "measureLine", "(LKeyCurve$Spot;)V"⟩, 12), (⟨"KeyCurve$Curve", "followLine", "()V"⟩, 12), (⟨"KeyCurve$Curve", "twice", "()V"⟩, 12), (⟨"KeyCurveModel", "below", "([IIZ)V"⟩, 20), (⟨"KeyCurveModel", "timesN", "([I[I[I)V"⟩, 20), (⟨"KeyCurveModel", "multiply", "([I[I)V"⟩, 20), (⟨"KeyCurveModel", "times", "([I[I[I)V"⟩, 20), (⟨"KeyCurveModel", "inverse", "([I[I[I)V"⟩, 20), (⟨"KeyCurveModel", "isRoot", "([I[I)Z"⟩, 20)]
theorem lw_r1 : ∀ q ∈ lw_privs_1, lw_okq q := List.forall_mem_cons.mpr ⟨lw_p0, List.forall_mem_cons.mpr ⟨lw_p1, List.forall_mem_cons.mpr ⟨lw_p2, List.forall_mem_cons.mpr ⟨lw_p3, List.forall_mem_cons.mpr ⟨lw_p4, List.forall_mem_cons.mpr ⟨lw_p5, List.forall_mem_cons.mpr ⟨lw_p6, List.forall_mem_cons.mpr ⟨lw_p7, List.forall_mem_cons.mpr ⟨lw_p8, List.forall_mem_cons.mpr ⟨lw_p9, List.forall_mem_cons.mpr ⟨lw_p10, List.forall_mem_cons.mpr ⟨lw_p11, List.forall_mem_cons.mpr ⟨lw_p12, List.forall_mem_cons.mpr ⟨lw_p13, List.forall_mem_cons.mpr ⟨lw_p14, List.forall_mem_cons.mpr ⟨lw_p15, fun _ h => absurd h List.not_mem_nil⟩⟩⟩⟩⟩⟩⟩⟩⟩⟩⟩⟩⟩⟩⟩⟩
theorem lw_p16 : lw_okq (⟨"KeyCurveModel", "keep", "(I[I[I)V"⟩, 20) := ⟨⟨by decide +kernel, by decide +kernel⟩, List.mem_of_getElem? (i := 369) (by decide +kernel), List.mem_of_getElem? (i := 541) (by decide +kernel), List.mem_of_getElem? (i := 542) (by decide +kernel)⟩
theorem lw_p17 : lw_okq (⟨"KeyCurveModel", "square", "([I)V"⟩, 20) := ⟨⟨by decide +kernel, by decide +kernel⟩, List.mem_of_getElem? (i := 369) (by decide +kernel), List.mem_of_getElem? (i := 553) (by decide +kernel), List.mem_of_getElem? (i := 554) (by decide +kernel)⟩
theorem lw_p18 : lw_okq (⟨"KeyCurveModel", "load", "(I)V"⟩, 20) := ⟨⟨by decide +kernel, by decide +kernel⟩, List.mem_of_getElem? (i := 369) (by decide +kernel), List.mem_of_getElem? (i := 568) (by decide +kernel), List.mem_of_getElem? (i := 569) (by decide +kernel)⟩
theorem lw_p19 : lw_okq (⟨"KeyCurveModel", "more", "([I[I)V"⟩, 20) := ⟨⟨by decide +kernel, by decide +kernel⟩, List.mem_of_getElem? (i := 369) (by decide +kernel), List.mem_of_getElem? (i := 572) (by decide +kernel), List.mem_of_getElem? (i := 573) (by decide +kernel)⟩
theorem lw_p20 : lw_okq (⟨"KeyCurveModel", "join", "([I[IZ)V"⟩, 20) := ⟨⟨by decide +kernel, by decide +kernel⟩, List.mem_of_getElem? (i := 369) (by decide +kernel), List.mem_of_getElem? (i := 576) (by decide +kernel), List.mem_of_getElem? (i := 577) (by decide +kernel)⟩
theorem lw_p21 : lw_okq (⟨"KeyCurveModel", "store", "(I)V"⟩, 20) := ⟨⟨by decide +kernel, by decide +kernel⟩, List.mem_of_getElem? (i := 369) (by decide +kernel), List.mem_of_getElem? (i := 583) (by decide +kernel), List.mem_of_getElem? (i := 584) (by decide +kernel)⟩
def lw_privs_2 : List (MethodName × Nat) := [(⟨"KeyCurveModel", "keep", "(I[I[I)V"⟩, 20), (⟨"KeyCurveModel", "square", "([I)V"⟩, 20), (⟨"KeyCurveModel", "load", "(I)V"⟩, 20), (⟨"KeyCurveModel", "more", "([I[I)V"⟩, 20), (⟨"KeyCurveModel", "join", "([I[IZ)V"⟩, 20), (⟨"KeyCurveModel", "store", "(I)V"⟩, 20)]
theorem lw_r2 : ∀ q ∈ lw_privs_2, lw_okq q := List.forall_mem_cons.mpr ⟨lw_p16, List.forall_mem_cons.mpr ⟨lw_p17, List.forall_mem_cons.mpr ⟨lw_p18, List.forall_mem_cons.mpr ⟨lw_p19, List.forall_mem_cons.mpr ⟨lw_p20, List.forall_mem_cons.mpr ⟨lw_p21, fun _ h => absurd h List.not_mem_nil⟩⟩⟩⟩⟩⟩
def lw_privs : List (MethodName × Nat) := lw_privs_1 ++ (lw_privs_2)
def lw_tbl : List Cond := k2_sels lw_privs ++ tables_1
theorem lw_privs_ok : ∀ q ∈ lw_privs, lw_okq q := by
  show ∀ q ∈ lw_privs_1 ++ (lw_privs_2), lw_okq q
  exact List.forall_mem_append.mpr ⟨lw_r1, lw_r2⟩
/-! Own rows: the good words of the tables, one list for every method. -/
def kt_all : List Cond := lw_tbl.filter goodWord
theorem kt_mem {i : Nat} {w : Cond} (h : lw_tbl[i]? = some w) (hg : goodWord w = true) : w ∈ kt_all := List.mem_filter.mpr ⟨List.mem_of_getElem? h, hg⟩
theorem kt_good : ∀ w ∈ kt_all, (w.onTables && w.keeps) = true ∨ ∃ ty, w = .arrayClass ty := fun w h => good_of_word (List.mem_filter.mp h).2
theorem kt_in {y z : Cond} (hz : z ∈ kt_all) : GoodIn (y :: kt_all) (z :: kt_all) := fun w hw => by
  rcases List.mem_cons.mp hw with e | h
  · subst e
    exact ⟨List.mem_cons_of_mem _ hz, kt_good _ hz⟩
  · exact ⟨List.mem_cons_of_mem _ h, kt_good _ h⟩
theorem kt_inS {y z : Cond} {own : String} {idx : Nat} {mn : MethodName} (hz : z ∈ kt_all) (h1 : Cond.methodLink own idx mn ∈ kt_all) (h2 : Cond.static mn ∈ kt_all) (h3 : Cond.initialized mn.cls ∈ kt_all) : GoodIn (y :: kt_all) (va_wsS own idx mn (z :: kt_all)) := fun w hw => by
  rcases List.mem_append.mp hw with h | h
  · have hk : w ∈ kt_all := by
      rcases List.mem_cons.mp h with e | h
      · subst e; exact h1
      · rcases List.mem_cons.mp h with e | h
        · subst e; exact h2
        · rcases List.mem_cons.mp h with e | h
          · subst e; exact h3
          · cases h
    exact ⟨List.mem_cons_of_mem _ hk, kt_good _ hk⟩
  · exact kt_in hz w h
theorem kt_inV {y z : Cond} {own C : String} {idx : Nat} {mn : MethodName} (hz : z ∈ kt_all) (h1 : Cond.methodLink own idx mn ∈ kt_all) (h2 : Cond.instanceMethod mn ∈ kt_all) (h3 : Cond.selects C mn mn ∈ kt_all) (h4 : Cond.initialized C ∈ kt_all) : GoodIn (y :: kt_all) (wsV own idx C mn (z :: kt_all)) := fun w hw => by
  rcases List.mem_append.mp hw with h | h
  · have hk : w ∈ kt_all := by
      rcases List.mem_cons.mp h with e | h
      · subst e; exact h1
      · rcases List.mem_cons.mp h with e | h
        · subst e; exact h2
        · rcases List.mem_cons.mp h with e | h
          · subst e; exact h3
          · rcases List.mem_cons.mp h with e | h
            · subst e; exact h4
            · cases h
    exact ⟨List.mem_cons_of_mem _ hk, kt_good _ hk⟩
  · exact kt_in hz w h
abbrev R_Wo : String := "KeyCurve$Words"
abbrev R_Pr : String := "KeyCurve$Prime"
abbrev R_Sp : String := "KeyCurve$Spot"
abbrev R_Cu : String := "KeyCurve$Curve"
abbrev R_Ke : String := "KeyCurve"
abbrev R_Mo : String := "KeyCurveModel"
abbrev R_In : String := "java/lang/Integer"
abbrev R_Ob : String := "java/lang/Object"
abbrev R_Sy : String := "java/lang/System"
abbrev b_Ke_init : ByteArray := prog_1_method_1_code
abbrev y_Ke_init : MethodName := ⟨"KeyCurve", "<init>", "()V"⟩
def w_Ke_init : List Cond := .code y_Ke_init b_Ke_init 2 none :: kt_all
abbrev b_Ke_add : ByteArray := prog_1_method_4_code
abbrev y_Ke_add : MethodName := ⟨"KeyCurve", "add", "(IIIZ)V"⟩
def w_Ke_add : List Cond := .code y_Ke_add b_Ke_add 5 none :: kt_all
abbrev b_Ke_base : ByteArray := prog_1_method_9_code
abbrev y_Ke_base : MethodName := ⟨"KeyCurve", "base", "(I)V"⟩
def w_Ke_base : List Cond := .code y_Ke_base b_Ke_base 2 none :: kt_all
abbrev b_Ke_get : ByteArray := prog_1_method_3_code
abbrev y_Ke_get : MethodName := ⟨"KeyCurve", "get", "(II)I"⟩
def w_Ke_get : List Cond := .code y_Ke_get b_Ke_get 3 (some .int) :: kt_all
abbrev b_Ke_invert : ByteArray := prog_1_method_7_code
abbrev y_Ke_invert : MethodName := ⟨"KeyCurve", "invert", "(IIZ)Z"⟩
def w_Ke_invert : List Cond := .code y_Ke_invert b_Ke_invert 4 (some .boolean) :: kt_all
abbrev b_Ke_lift : ByteArray := prog_1_method_12_code
abbrev y_Ke_lift : MethodName := ⟨"KeyCurve", "lift", "(IIZ)Z"⟩
def w_Ke_lift : List Cond := .code y_Ke_lift b_Ke_lift 4 (some .boolean) :: kt_all
abbrev b_Ke_multiply : ByteArray := prog_1_method_6_code
abbrev y_Ke_multiply : MethodName := ⟨"KeyCurve", "multiply", "(IIIZ)V"⟩
def w_Ke_multiply : List Cond := .code y_Ke_multiply b_Ke_multiply 5 none :: kt_all
abbrev b_Ke_none : ByteArray := prog_1_method_10_code
abbrev y_Ke_none : MethodName := ⟨"KeyCurve", "none", "(I)V"⟩
def w_Ke_none : List Cond := .code y_Ke_none b_Ke_none 2 none :: kt_all
abbrev b_Ke_plus : ByteArray := prog_1_method_13_code
abbrev y_Ke_plus : MethodName := ⟨"KeyCurve", "plus", "(III)V"⟩
def w_Ke_plus : List Cond := .code y_Ke_plus b_Ke_plus 4 none :: kt_all
abbrev b_Ke_point : ByteArray := prog_1_method_11_code
abbrev y_Ke_point : MethodName := ⟨"KeyCurve", "point", "(III)Z"⟩
def w_Ke_point : List Cond := .code y_Ke_point b_Ke_point 4 (some .boolean) :: kt_all
abbrev b_Ke_prime : ByteArray := prog_1_method_19_code
abbrev y_Ke_prime : MethodName := ⟨"KeyCurve", "prime", "(Z)LKeyCurve$Prime;"⟩
def w_Ke_prime : List Cond := .code y_Ke_prime b_Ke_prime 2 (some (.object "KeyCurve$Prime")) :: kt_all
abbrev b_Ke_register : ByteArray := prog_1_method_17_code
abbrev y_Ke_register : MethodName := ⟨"KeyCurve", "register", "(I)[J"⟩
def w_Ke_register : List Cond := .code y_Ke_register b_Ke_register 2 (some (.array .long)) :: kt_all
abbrev b_Ke_root : ByteArray := prog_1_method_8_code
abbrev y_Ke_root : MethodName := ⟨"KeyCurve", "root", "(II)Z"⟩
def w_Ke_root : List Cond := .code y_Ke_root b_Ke_root 3 (some .boolean) :: kt_all
abbrev b_Ke_same : ByteArray := prog_1_method_16_code
abbrev y_Ke_same : MethodName := ⟨"KeyCurve", "same", "(II)Z"⟩
def w_Ke_same : List Cond := .code y_Ke_same b_Ke_same 5 (some .boolean) :: kt_all
abbrev b_Ke_set : ByteArray := prog_1_method_2_code
abbrev y_Ke_set : MethodName := ⟨"KeyCurve", "set", "(III)I"⟩
def w_Ke_set : List Cond := .code y_Ke_set b_Ke_set 6 (some .int) :: kt_all
abbrev b_Ke_spot : ByteArray := prog_1_method_18_code
abbrev y_Ke_spot : MethodName := ⟨"KeyCurve", "spot", "(I)LKeyCurve$Spot;"⟩
def w_Ke_spot : List Cond := .code y_Ke_spot b_Ke_spot 2 (some (.object "KeyCurve$Spot")) :: kt_all
abbrev b_Ke_subtract : ByteArray := prog_1_method_5_code
abbrev y_Ke_subtract : MethodName := ⟨"KeyCurve", "subtract", "(IIIZ)V"⟩
def w_Ke_subtract : List Cond := .code y_Ke_subtract b_Ke_subtract 5 none :: kt_all
abbrev b_Ke_take : ByteArray := prog_1_method_15_code
abbrev y_Ke_take : MethodName := ⟨"KeyCurve", "take", "(IIZ)Z"⟩
def w_Ke_take : List Cond := .code y_Ke_take b_Ke_take 5 (some .boolean) :: kt_all
abbrev b_Ke_times : ByteArray := prog_1_method_14_code
abbrev y_Ke_times : MethodName := ⟨"KeyCurve", "times", "(III)V"⟩
def w_Ke_times : List Cond := .code y_Ke_times b_Ke_times 4 none :: kt_all
abbrev b_Cu_init : ByteArray := prog_2_method_1_code
abbrev y_Cu_init : MethodName := ⟨"KeyCurve$Curve", "<init>", "(LKeyCurve$Prime;)V"⟩
def w_Cu_init : List Cond := .code y_Cu_init b_Cu_init 2 none :: kt_all
abbrev b_Cu_evenRoot : ByteArray := prog_2_method_2_code
abbrev y_Cu_evenRoot : MethodName := ⟨"KeyCurve$Curve", "evenRoot", "([J[J)Z"⟩
def w_Cu_evenRoot : List Cond := .code y_Cu_evenRoot b_Cu_evenRoot 3 (some .boolean) :: kt_all
abbrev b_Cu_findByX : ByteArray := prog_2_method_4_code
abbrev y_Cu_findByX : MethodName := ⟨"KeyCurve$Curve", "findByX", "(LKeyCurve$Spot;[JZ)Z"⟩
def w_Cu_findByX : List Cond := .code y_Cu_findByX b_Cu_findByX 4 (some .boolean) :: kt_all
abbrev b_Cu_finish : ByteArray := prog_2_method_12_code
abbrev y_Cu_finish : MethodName := ⟨"KeyCurve$Curve", "finish", "(LKeyCurve$Spot;)V"⟩
def w_Cu_finish : List Cond := .code y_Cu_finish b_Cu_finish 2 none :: kt_all
abbrev b_Cu_followLine : ByteArray := prog_2_method_10_code
abbrev y_Cu_followLine : MethodName := ⟨"KeyCurve$Curve", "followLine", "()V"⟩
def w_Cu_followLine : List Cond := .code y_Cu_followLine b_Cu_followLine 1 none :: kt_all
abbrev b_Cu_holds : ByteArray := prog_2_method_3_code
abbrev y_Cu_holds : MethodName := ⟨"KeyCurve$Curve", "holds", "([J[J)Z"⟩
def w_Cu_holds : List Cond := .code y_Cu_holds b_Cu_holds 3 (some .boolean) :: kt_all
abbrev b_Cu_join : ByteArray := prog_2_method_8_code
abbrev y_Cu_join : MethodName := ⟨"KeyCurve$Curve", "join", "(LKeyCurve$Spot;)V"⟩
def w_Cu_join : List Cond := .code y_Cu_join b_Cu_join 2 none :: kt_all
abbrev b_Cu_measureLine : ByteArray := prog_2_method_9_code
abbrev y_Cu_measureLine : MethodName := ⟨"KeyCurve$Curve", "measureLine", "(LKeyCurve$Spot;)V"⟩
def w_Cu_measureLine : List Cond := .code y_Cu_measureLine b_Cu_measureLine 2 none :: kt_all
abbrev b_Cu_putSquareOfY : ByteArray := prog_2_method_5_code
abbrev y_Cu_putSquareOfY : MethodName := ⟨"KeyCurve$Curve", "putSquareOfY", "([J[J)V"⟩
def w_Cu_putSquareOfY : List Cond := .code y_Cu_putSquareOfY b_Cu_putSquareOfY 3 none :: kt_all
abbrev b_Cu_start : ByteArray := prog_2_method_6_code
abbrev y_Cu_start : MethodName := ⟨"KeyCurve$Curve", "start", "()V"⟩
def w_Cu_start : List Cond := .code y_Cu_start b_Cu_start 2 none :: kt_all
abbrev b_Cu_startMultiple : ByteArray := prog_2_method_7_code
abbrev y_Cu_startMultiple : MethodName := ⟨"KeyCurve$Curve", "startMultiple", "(LKeyCurve$Spot;[J)V"⟩
def w_Cu_startMultiple : List Cond := .code y_Cu_startMultiple b_Cu_startMultiple 4 none :: kt_all
abbrev b_Cu_twice : ByteArray := prog_2_method_11_code
abbrev y_Cu_twice : MethodName := ⟨"KeyCurve$Curve", "twice", "()V"⟩
def w_Cu_twice : List Cond := .code y_Cu_twice b_Cu_twice 1 none :: kt_all
abbrev b_Pr_init : ByteArray := prog_3_method_1_code
abbrev y_Pr_init : MethodName := ⟨"KeyCurve$Prime", "<init>", "([J[JI)V"⟩
def w_Pr_init : List Cond := .code y_Pr_init b_Pr_init 4 none :: kt_all
abbrev b_Pr_addRow : ByteArray := prog_3_method_10_code
abbrev y_Pr_addRow : MethodName := ⟨"KeyCurve$Prime", "addRow", "(J[JII)V"⟩
def w_Pr_addRow : List Cond := .code y_Pr_addRow b_Pr_addRow 11 none :: kt_all
abbrev b_Pr_difference : ByteArray := prog_3_method_3_code
abbrev y_Pr_difference : MethodName := ⟨"KeyCurve$Prime", "difference", "([J[J[J)V"⟩
def w_Pr_difference : List Cond := .code y_Pr_difference b_Pr_difference 7 none :: kt_all
abbrev b_Pr_fold : ByteArray := prog_3_method_9_code
abbrev y_Pr_fold : MethodName := ⟨"KeyCurve$Prime", "fold", "()V"⟩
def w_Pr_fold : List Cond := .code y_Pr_fold b_Pr_fold 2 none :: kt_all
abbrev b_Pr_inverse : ByteArray := prog_3_method_6_code
abbrev y_Pr_inverse : MethodName := ⟨"KeyCurve$Prime", "inverse", "([J[J)Z"⟩
def w_Pr_inverse : List Cond := .code y_Pr_inverse b_Pr_inverse 3 (some .boolean) :: kt_all
abbrev b_Pr_power : ByteArray := prog_3_method_5_code
abbrev y_Pr_power : MethodName := ⟨"KeyCurve$Prime", "power", "([J[J[J)V"⟩
def w_Pr_power : List Cond := .code y_Pr_power b_Pr_power 5 none :: kt_all
abbrev b_Pr_product : ByteArray := prog_3_method_4_code
abbrev y_Pr_product : MethodName := ⟨"KeyCurve$Prime", "product", "([J[J[J)V"⟩
def w_Pr_product : List Cond := .code y_Pr_product b_Pr_product 5 none :: kt_all
abbrev b_Pr_sum : ByteArray := prog_3_method_2_code
abbrev y_Pr_sum : MethodName := ⟨"KeyCurve$Prime", "sum", "([J[J[J)V"⟩
def w_Pr_sum : List Cond := .code y_Pr_sum b_Pr_sum 7 none :: kt_all
abbrev b_Pr_takeHigh : ByteArray := prog_3_method_8_code
abbrev y_Pr_takeHigh : MethodName := ⟨"KeyCurve$Prime", "takeHigh", "()Z"⟩
def w_Pr_takeHigh : List Cond := .code y_Pr_takeHigh b_Pr_takeHigh 4 (some .boolean) :: kt_all
abbrev b_Pr_trim : ByteArray := prog_3_method_7_code
abbrev y_Pr_trim : MethodName := ⟨"KeyCurve$Prime", "trim", "([J)V"⟩
def w_Pr_trim : List Cond := .code y_Pr_trim b_Pr_trim 2 none :: kt_all
abbrev b_Sp_init : ByteArray := prog_4_method_1_code
abbrev y_Sp_init : MethodName := ⟨"KeyCurve$Spot", "<init>", "()V"⟩
def w_Sp_init : List Cond := .code y_Sp_init b_Sp_init 1 none :: kt_all
abbrev b_Sp_become : ByteArray := prog_4_method_2_code
abbrev y_Sp_become : MethodName := ⟨"KeyCurve$Spot", "become", "([J[J)V"⟩
def w_Sp_become : List Cond := .code y_Sp_become b_Sp_become 3 none :: kt_all
abbrev b_Wo_areEqual : ByteArray := prog_5_method_4_code
abbrev y_Wo_areEqual : MethodName := ⟨"KeyCurve$Words", "areEqual", "([J[J)Z"⟩
def w_Wo_areEqual : List Cond := .code y_Wo_areEqual b_Wo_areEqual 3 (some .boolean) :: kt_all
abbrev b_Wo_copy : ByteArray := prog_5_method_2_code
abbrev y_Wo_copy : MethodName := ⟨"KeyCurve$Words", "copy", "([J[J)V"⟩
def w_Wo_copy : List Cond := .code y_Wo_copy b_Wo_copy 2 none :: kt_all
abbrev b_Wo_differenceInto : ByteArray := prog_5_method_9_code
abbrev y_Wo_differenceInto : MethodName := ⟨"KeyCurve$Words", "differenceInto", "([J[J[J)J"⟩
def w_Wo_differenceInto : List Cond := .code y_Wo_differenceInto b_Wo_differenceInto 8 (some .long) :: kt_all
abbrev b_Wo_hasBit : ByteArray := prog_5_method_7_code
abbrev y_Wo_hasBit : MethodName := ⟨"KeyCurve$Words", "hasBit", "([JI)Z"⟩
def w_Wo_hasBit : List Cond := .code y_Wo_hasBit b_Wo_hasBit 2 (some .boolean) :: kt_all
abbrev b_Wo_isBelow : ByteArray := prog_5_method_5_code
abbrev y_Wo_isBelow : MethodName := ⟨"KeyCurve$Words", "isBelow", "([J[J)Z"⟩
def w_Wo_isBelow : List Cond := .code y_Wo_isBelow b_Wo_isBelow 3 (some .boolean) :: kt_all
abbrev b_Wo_isOdd : ByteArray := prog_5_method_6_code
abbrev y_Wo_isOdd : MethodName := ⟨"KeyCurve$Words", "isOdd", "([J)Z"⟩
def w_Wo_isOdd : List Cond := .code y_Wo_isOdd b_Wo_isOdd 1 (some .boolean) :: kt_all
abbrev b_Wo_isZero : ByteArray := prog_5_method_3_code
abbrev y_Wo_isZero : MethodName := ⟨"KeyCurve$Words", "isZero", "([J)Z"⟩
def w_Wo_isZero : List Cond := .code y_Wo_isZero b_Wo_isZero 4 (some .boolean) :: kt_all
abbrev b_Wo_sumInto : ByteArray := prog_5_method_8_code
abbrev y_Wo_sumInto : MethodName := ⟨"KeyCurve$Words", "sumInto", "([J[J[J)J"⟩
def w_Wo_sumInto : List Cond := .code y_Wo_sumInto b_Wo_sumInto 8 (some .long) :: kt_all
abbrev b_Mo_init : ByteArray := prog_7_method_1_code
abbrev y_Mo_init : MethodName := ⟨"KeyCurveModel", "<init>", "()V"⟩
def w_Mo_init : List Cond := .code y_Mo_init b_Mo_init 1 none :: kt_all
abbrev b_Mo_add_0 : ByteArray := prog_7_method_22_code
abbrev y_Mo_add_0 : MethodName := ⟨"KeyCurveModel", "add", "(IIIZ)V"⟩
def w_Mo_add_0 : List Cond := .code y_Mo_add_0 b_Mo_add_0 6 none :: kt_all
abbrev b_Mo_add_1 : ByteArray := prog_7_method_5_code
abbrev y_Mo_add_1 : MethodName := ⟨"KeyCurveModel", "add", "([I[I[I)I"⟩
def w_Mo_add_1 : List Cond := .code y_Mo_add_1 b_Mo_add_1 6 (some .int) :: kt_all
abbrev b_Mo_base : ByteArray := prog_7_method_29_code
abbrev y_Mo_base : MethodName := ⟨"KeyCurveModel", "base", "(I)V"⟩
def w_Mo_base : List Cond := .code y_Mo_base b_Mo_base 2 none :: kt_all
abbrev b_Mo_below : ByteArray := prog_7_method_18_code
abbrev y_Mo_below : MethodName := ⟨"KeyCurveModel", "below", "([IIZ)V"⟩
def w_Mo_below : List Cond := .code y_Mo_below b_Mo_below 5 none :: kt_all
abbrev b_Mo_bit : ByteArray := prog_7_method_8_code
abbrev y_Mo_bit : MethodName := ⟨"KeyCurveModel", "bit", "([II)I"⟩
def w_Mo_bit : List Cond := .code y_Mo_bit b_Mo_bit 2 (some .int) :: kt_all
abbrev b_Mo_compare : ByteArray := prog_7_method_3_code
abbrev y_Mo_compare : MethodName := ⟨"KeyCurveModel", "compare", "([I[I)I"⟩
def w_Mo_compare : List Cond := .code y_Mo_compare b_Mo_compare 3 (some .int) :: kt_all
abbrev b_Mo_copy : ByteArray := prog_7_method_7_code
abbrev y_Mo_copy : MethodName := ⟨"KeyCurveModel", "copy", "([I[I)V"⟩
def w_Mo_copy : List Cond := .code y_Mo_copy b_Mo_copy 2 none :: kt_all
abbrev b_Mo_get : ByteArray := prog_7_method_21_code
abbrev y_Mo_get : MethodName := ⟨"KeyCurveModel", "get", "(II)I"⟩
def w_Mo_get : List Cond := .code y_Mo_get b_Mo_get 3 (some .int) :: kt_all
abbrev b_Mo_half : ByteArray := prog_7_method_13_code
abbrev y_Mo_half : MethodName := ⟨"KeyCurveModel", "half", "([II)V"⟩
def w_Mo_half : List Cond := .code y_Mo_half b_Mo_half 3 none :: kt_all
abbrev b_Mo_inverse : ByteArray := prog_7_method_15_code
abbrev y_Mo_inverse : MethodName := ⟨"KeyCurveModel", "inverse", "([I[I[I)V"⟩
def w_Mo_inverse : List Cond := .code y_Mo_inverse b_Mo_inverse 5 none :: kt_all
abbrev b_Mo_invert : ByteArray := prog_7_method_25_code
abbrev y_Mo_invert : MethodName := ⟨"KeyCurveModel", "invert", "(IIZ)Z"⟩
def w_Mo_invert : List Cond := .code y_Mo_invert b_Mo_invert 4 (some .boolean) :: kt_all
abbrev b_Mo_isEven : ByteArray := prog_7_method_19_code
abbrev y_Mo_isEven : MethodName := ⟨"KeyCurveModel", "isEven", "([I)Z"⟩
def w_Mo_isEven : List Cond := .code y_Mo_isEven b_Mo_isEven 1 (some .boolean) :: kt_all
abbrev b_Mo_isOne : ByteArray := prog_7_method_14_code
abbrev y_Mo_isOne : MethodName := ⟨"KeyCurveModel", "isOne", "([I)Z"⟩
def w_Mo_isOne : List Cond := .code y_Mo_isOne b_Mo_isOne 2 (some .boolean) :: kt_all
abbrev b_Mo_isRoot : ByteArray := prog_7_method_26_code
abbrev y_Mo_isRoot : MethodName := ⟨"KeyCurveModel", "isRoot", "([I[I)Z"⟩
def w_Mo_isRoot : List Cond := .code y_Mo_isRoot b_Mo_isRoot 4 (some .boolean) :: kt_all
abbrev b_Mo_isZero : ByteArray := prog_7_method_4_code
abbrev y_Mo_isZero : MethodName := ⟨"KeyCurveModel", "isZero", "([I)Z"⟩
def w_Mo_isZero : List Cond := .code y_Mo_isZero b_Mo_isZero 2 (some .boolean) :: kt_all
abbrev b_Mo_join : ByteArray := prog_7_method_17_code
abbrev y_Mo_join : MethodName := ⟨"KeyCurveModel", "join", "([I[IZ)V"⟩
def w_Mo_join : List Cond := .code y_Mo_join b_Mo_join 5 none :: kt_all
abbrev b_Mo_keep : ByteArray := prog_7_method_28_code
abbrev y_Mo_keep : MethodName := ⟨"KeyCurveModel", "keep", "(I[I[I)V"⟩
def w_Mo_keep : List Cond := .code y_Mo_keep b_Mo_keep 4 none :: kt_all
abbrev b_Mo_lift : ByteArray := prog_7_method_33_code
abbrev y_Mo_lift : MethodName := ⟨"KeyCurveModel", "lift", "(IIZ)Z"⟩
def w_Mo_lift : List Cond := .code y_Mo_lift b_Mo_lift 5 (some .boolean) :: kt_all
abbrev b_Mo_load : ByteArray := prog_7_method_34_code
abbrev y_Mo_load : MethodName := ⟨"KeyCurveModel", "load", "(I)V"⟩
def w_Mo_load : List Cond := .code y_Mo_load b_Mo_load 2 none :: kt_all
abbrev b_Mo_minus : ByteArray := prog_7_method_11_code
abbrev y_Mo_minus : MethodName := ⟨"KeyCurveModel", "minus", "([I[I[I)V"⟩
def w_Mo_minus : List Cond := .code y_Mo_minus b_Mo_minus 3 none :: kt_all
abbrev b_Mo_more : ByteArray := prog_7_method_37_code
abbrev y_Mo_more : MethodName := ⟨"KeyCurveModel", "more", "([I[I)V"⟩
def w_Mo_more : List Cond := .code y_Mo_more b_Mo_more 3 none :: kt_all
abbrev b_Mo_multiply_0 : ByteArray := prog_7_method_24_code
abbrev y_Mo_multiply_0 : MethodName := ⟨"KeyCurveModel", "multiply", "(IIIZ)V"⟩
def w_Mo_multiply_0 : List Cond := .code y_Mo_multiply_0 b_Mo_multiply_0 5 none :: kt_all
abbrev b_Mo_multiply_1 : ByteArray := prog_7_method_9_code
abbrev y_Mo_multiply_1 : MethodName := ⟨"KeyCurveModel", "multiply", "([I[I)V"⟩
def w_Mo_multiply_1 : List Cond := .code y_Mo_multiply_1 b_Mo_multiply_1 7 none :: kt_all
abbrev b_Mo_none : ByteArray := prog_7_method_30_code
abbrev y_Mo_none : MethodName := ⟨"KeyCurveModel", "none", "(I)V"⟩
def w_Mo_none : List Cond := .code y_Mo_none b_Mo_none 2 none :: kt_all
abbrev b_Mo_plus_0 : ByteArray := prog_7_method_36_code
abbrev y_Mo_plus_0 : MethodName := ⟨"KeyCurveModel", "plus", "(III)V"⟩
def w_Mo_plus_0 : List Cond := .code y_Mo_plus_0 b_Mo_plus_0 4 none :: kt_all
abbrev b_Mo_plus_1 : ByteArray := prog_7_method_12_code
abbrev y_Mo_plus_1 : MethodName := ⟨"KeyCurveModel", "plus", "([I[I[I)V"⟩
def w_Mo_plus_1 : List Cond := .code y_Mo_plus_1 b_Mo_plus_1 3 none :: kt_all
abbrev b_Mo_point : ByteArray := prog_7_method_32_code
abbrev y_Mo_point : MethodName := ⟨"KeyCurveModel", "point", "(III)Z"⟩
def w_Mo_point : List Cond := .code y_Mo_point b_Mo_point 6 (some .boolean) :: kt_all
abbrev b_Mo_root : ByteArray := prog_7_method_27_code
abbrev y_Mo_root : MethodName := ⟨"KeyCurveModel", "root", "(II)Z"⟩
def w_Mo_root : List Cond := .code y_Mo_root b_Mo_root 3 (some .boolean) :: kt_all
abbrev b_Mo_same : ByteArray := prog_7_method_40_code
abbrev y_Mo_same : MethodName := ⟨"KeyCurveModel", "same", "(II)Z"⟩
def w_Mo_same : List Cond := .code y_Mo_same b_Mo_same 3 (some .boolean) :: kt_all
abbrev b_Mo_set : ByteArray := prog_7_method_20_code
abbrev y_Mo_set : MethodName := ⟨"KeyCurveModel", "set", "(III)I"⟩
def w_Mo_set : List Cond := .code y_Mo_set b_Mo_set 5 (some .int) :: kt_all
abbrev b_Mo_square : ByteArray := prog_7_method_31_code
abbrev y_Mo_square : MethodName := ⟨"KeyCurveModel", "square", "([I)V"⟩
def w_Mo_square : List Cond := .code y_Mo_square b_Mo_square 3 none :: kt_all
abbrev b_Mo_store : ByteArray := prog_7_method_35_code
abbrev y_Mo_store : MethodName := ⟨"KeyCurveModel", "store", "(I)V"⟩
def w_Mo_store : List Cond := .code y_Mo_store b_Mo_store 2 none :: kt_all
abbrev b_Mo_sub : ByteArray := prog_7_method_6_code
abbrev y_Mo_sub : MethodName := ⟨"KeyCurveModel", "sub", "([I[I[I)I"⟩
def w_Mo_sub : List Cond := .code y_Mo_sub b_Mo_sub 6 (some .int) :: kt_all
abbrev b_Mo_subtract : ByteArray := prog_7_method_23_code
abbrev y_Mo_subtract : MethodName := ⟨"KeyCurveModel", "subtract", "(IIIZ)V"⟩
def w_Mo_subtract : List Cond := .code y_Mo_subtract b_Mo_subtract 5 none :: kt_all
abbrev b_Mo_take : ByteArray := prog_7_method_39_code
abbrev y_Mo_take : MethodName := ⟨"KeyCurveModel", "take", "(IIZ)Z"⟩
def w_Mo_take : List Cond := .code y_Mo_take b_Mo_take 4 (some .boolean) :: kt_all
abbrev b_Mo_times_0 : ByteArray := prog_7_method_38_code
abbrev y_Mo_times_0 : MethodName := ⟨"KeyCurveModel", "times", "(III)V"⟩
def w_Mo_times_0 : List Cond := .code y_Mo_times_0 b_Mo_times_0 5 none :: kt_all
abbrev b_Mo_times_1 : ByteArray := prog_7_method_10_code
abbrev y_Mo_times_1 : MethodName := ⟨"KeyCurveModel", "times", "([I[I[I)V"⟩
def w_Mo_times_1 : List Cond := .code y_Mo_times_1 b_Mo_times_1 9 none :: kt_all
abbrev b_Mo_timesN : ByteArray := prog_7_method_16_code
abbrev y_Mo_timesN : MethodName := ⟨"KeyCurveModel", "timesN", "([I[I[I)V"⟩
def w_Mo_timesN : List Cond := .code y_Mo_timesN b_Mo_timesN 6 none :: kt_all
abbrev b_In_compare : ByteArray := prog_9_method_40_code
abbrev y_In_compare : MethodName := ⟨"java/lang/Integer", "compare", "(II)I"⟩
def w_In_compare : List Cond := .code y_In_compare b_In_compare 2 (some .int) :: kt_all
abbrev b_In_compareUnsigned : ByteArray := prog_9_method_41_code
abbrev y_In_compareUnsigned : MethodName := ⟨"java/lang/Integer", "compareUnsigned", "(II)I"⟩
def w_In_compareUnsigned : List Cond := .code y_In_compareUnsigned b_In_compareUnsigned 2 (some .int) :: kt_all
abbrev b_Ob_init : ByteArray := object_method_1_code
abbrev y_Ob_init : MethodName := ⟨"java/lang/Object", "<init>", "()V"⟩
def w_Ob_init : List Cond := .code y_Ob_init b_Ob_init 1 none :: kt_all
theorem kt_s0 : Cond.selects "KeyCurve" ⟨"KeyCurve", "register", "(I)[J"⟩ ⟨"KeyCurve", "register", "(I)[J"⟩ ∈ kt_all := kt_mem (i := 0) (by decide +kernel) (by decide +kernel)
theorem kt_s1 : Cond.selects "KeyCurve" ⟨"KeyCurve", "prime", "(Z)LKeyCurve$Prime;"⟩ ⟨"KeyCurve", "prime", "(Z)LKeyCurve$Prime;"⟩ ∈ kt_all := kt_mem (i := 1) (by decide +kernel) (by decide +kernel)
theorem kt_s2 : Cond.selects "KeyCurve$Prime" ⟨"KeyCurve$Prime", "addRow", "(J[JII)V"⟩ ⟨"KeyCurve$Prime", "addRow", "(J[JII)V"⟩ ∈ kt_all := kt_mem (i := 2) (by decide +kernel) (by decide +kernel)
theorem kt_s3 : Cond.selects "KeyCurve$Prime" ⟨"KeyCurve$Prime", "takeHigh", "()Z"⟩ ⟨"KeyCurve$Prime", "takeHigh", "()Z"⟩ ∈ kt_all := kt_mem (i := 3) (by decide +kernel) (by decide +kernel)
theorem kt_s4 : Cond.selects "KeyCurve$Prime" ⟨"KeyCurve$Prime", "fold", "()V"⟩ ⟨"KeyCurve$Prime", "fold", "()V"⟩ ∈ kt_all := kt_mem (i := 4) (by decide +kernel) (by decide +kernel)
theorem kt_s5 : Cond.selects "KeyCurve" ⟨"KeyCurve", "spot", "(I)LKeyCurve$Spot;"⟩ ⟨"KeyCurve", "spot", "(I)LKeyCurve$Spot;"⟩ ∈ kt_all := kt_mem (i := 5) (by decide +kernel) (by decide +kernel)
theorem kt_s6 : Cond.selects "KeyCurve$Curve" ⟨"KeyCurve$Curve", "putSquareOfY", "([J[J)V"⟩ ⟨"KeyCurve$Curve", "putSquareOfY", "([J[J)V"⟩ ∈ kt_all := kt_mem (i := 6) (by decide +kernel) (by decide +kernel)
theorem kt_s7 : Cond.selects "KeyCurve$Curve" ⟨"KeyCurve$Curve", "measureLine", "(LKeyCurve$Spot;)V"⟩ ⟨"KeyCurve$Curve", "measureLine", "(LKeyCurve$Spot;)V"⟩ ∈ kt_all := kt_mem (i := 7) (by decide +kernel) (by decide +kernel)
theorem kt_s8 : Cond.selects "KeyCurve$Curve" ⟨"KeyCurve$Curve", "followLine", "()V"⟩ ⟨"KeyCurve$Curve", "followLine", "()V"⟩ ∈ kt_all := kt_mem (i := 8) (by decide +kernel) (by decide +kernel)
theorem kt_s9 : Cond.selects "KeyCurve$Curve" ⟨"KeyCurve$Curve", "twice", "()V"⟩ ⟨"KeyCurve$Curve", "twice", "()V"⟩ ∈ kt_all := kt_mem (i := 9) (by decide +kernel) (by decide +kernel)
theorem kt_s10 : Cond.selects "KeyCurveModel" ⟨"KeyCurveModel", "below", "([IIZ)V"⟩ ⟨"KeyCurveModel", "below", "([IIZ)V"⟩ ∈ kt_all := kt_mem (i := 10) (by decide +kernel) (by decide +kernel)
theorem kt_s11 : Cond.selects "KeyCurveModel" ⟨"KeyCurveModel", "timesN", "([I[I[I)V"⟩ ⟨"KeyCurveModel", "timesN", "([I[I[I)V"⟩ ∈ kt_all := kt_mem (i := 11) (by decide +kernel) (by decide +kernel)
theorem kt_s12 : Cond.selects "KeyCurveModel" ⟨"KeyCurveModel", "multiply", "([I[I)V"⟩ ⟨"KeyCurveModel", "multiply", "([I[I)V"⟩ ∈ kt_all := kt_mem (i := 12) (by decide +kernel) (by decide +kernel)
theorem kt_s13 : Cond.selects "KeyCurveModel" ⟨"KeyCurveModel", "times", "([I[I[I)V"⟩ ⟨"KeyCurveModel", "times", "([I[I[I)V"⟩ ∈ kt_all := kt_mem (i := 13) (by decide +kernel) (by decide +kernel)
theorem kt_s14 : Cond.selects "KeyCurveModel" ⟨"KeyCurveModel", "inverse", "([I[I[I)V"⟩ ⟨"KeyCurveModel", "inverse", "([I[I[I)V"⟩ ∈ kt_all := kt_mem (i := 14) (by decide +kernel) (by decide +kernel)
theorem kt_s15 : Cond.selects "KeyCurveModel" ⟨"KeyCurveModel", "isRoot", "([I[I)Z"⟩ ⟨"KeyCurveModel", "isRoot", "([I[I)Z"⟩ ∈ kt_all := kt_mem (i := 15) (by decide +kernel) (by decide +kernel)
theorem kt_s16 : Cond.selects "KeyCurveModel" ⟨"KeyCurveModel", "keep", "(I[I[I)V"⟩ ⟨"KeyCurveModel", "keep", "(I[I[I)V"⟩ ∈ kt_all := kt_mem (i := 16) (by decide +kernel) (by decide +kernel)
theorem kt_s17 : Cond.selects "KeyCurveModel" ⟨"KeyCurveModel", "square", "([I)V"⟩ ⟨"KeyCurveModel", "square", "([I)V"⟩ ∈ kt_all := kt_mem (i := 17) (by decide +kernel) (by decide +kernel)
theorem kt_s18 : Cond.selects "KeyCurveModel" ⟨"KeyCurveModel", "load", "(I)V"⟩ ⟨"KeyCurveModel", "load", "(I)V"⟩ ∈ kt_all := kt_mem (i := 18) (by decide +kernel) (by decide +kernel)
theorem kt_s19 : Cond.selects "KeyCurveModel" ⟨"KeyCurveModel", "more", "([I[I)V"⟩ ⟨"KeyCurveModel", "more", "([I[I)V"⟩ ∈ kt_all := kt_mem (i := 19) (by decide +kernel) (by decide +kernel)
theorem kt_s20 : Cond.selects "KeyCurveModel" ⟨"KeyCurveModel", "join", "([I[IZ)V"⟩ ⟨"KeyCurveModel", "join", "([I[IZ)V"⟩ ∈ kt_all := kt_mem (i := 20) (by decide +kernel) (by decide +kernel)
theorem kt_s21 : Cond.selects "KeyCurveModel" ⟨"KeyCurveModel", "store", "(I)V"⟩ ⟨"KeyCurveModel", "store", "(I)V"⟩ ∈ kt_all := kt_mem (i := 21) (by decide +kernel) (by decide +kernel)
theorem kt_w0 : (Jvm.Cond.initialized "KeyCurveLaw") ∈ kt_all := kt_mem (i := 22) (by decide +kernel) (by decide +kernel)
theorem kt_w1 : (Jvm.Cond.initialized "KeyCurve") ∈ kt_all := kt_mem (i := 23) (by decide +kernel) (by decide +kernel)
theorem kt_w2 : (Jvm.Cond.initialized "KeyCurve$Spot") ∈ kt_all := kt_mem (i := 24) (by decide +kernel) (by decide +kernel)
theorem kt_w3 : (Jvm.Cond.initialized "KeyCurve$Prime") ∈ kt_all := kt_mem (i := 25) (by decide +kernel) (by decide +kernel)
theorem kt_w4 : (Jvm.Cond.initialized "KeyCurve$Curve") ∈ kt_all := kt_mem (i := 26) (by decide +kernel) (by decide +kernel)
theorem kt_w5 : (Jvm.Cond.initialized "KeyCurveModel") ∈ kt_all := kt_mem (i := 27) (by decide +kernel) (by decide +kernel)
theorem kt_w6 : (Jvm.Cond.initialized "KeyCurve$Words") ∈ kt_all := kt_mem (i := 28) (by decide +kernel) (by decide +kernel)
theorem kt_w7 : (Jvm.Cond.initialized "java/lang/System") ∈ kt_all := kt_mem (i := 29) (by decide +kernel) (by decide +kernel)
theorem kt_w8 : (Jvm.Cond.initialized "java/lang/Integer") ∈ kt_all := kt_mem (i := 30) (by decide +kernel) (by decide +kernel)
theorem kt_w9 : (Jvm.Cond.classLink "KeyCurveLaw" (7 : Nat) "KeyCurve") ∈ kt_all := kt_mem (i := 31) (by decide +kernel) (by decide +kernel)
theorem kt_w10 : (Jvm.Cond.instantiable "KeyCurve" (5 : Nat)) ∈ kt_all := kt_mem (i := 32) (by decide +kernel) (by decide +kernel)
theorem kt_w11 : (Jvm.Cond.methodLink "KeyCurveLaw" (9 : Nat) ({ cls := "KeyCurve", name := "<init>", desc := "()V" } : Jvm.MethodName)) ∈ kt_all := kt_mem (i := 33) (by decide +kernel) (by decide +kernel)
theorem kt_w12 : (Jvm.Cond.instanceMethod ({ cls := "KeyCurve", name := "<init>", desc := "()V" } : Jvm.MethodName)) ∈ kt_all := kt_mem (i := 34) (by decide +kernel) (by decide +kernel)
theorem kt_w13 : (Jvm.Cond.code ({ cls := "KeyCurve", name := "<init>", desc := "()V" } : Jvm.MethodName) prog_1_method_1_code (2 : Nat) (Option.none : Option Jvm.ClassFile.FieldType)) ∈ kt_all := kt_mem (i := 35) (by decide +kernel) (by decide +kernel)
theorem kt_w14 : (Jvm.Cond.methodLink "KeyCurve" (1 : Nat) ({ cls := "java/lang/Object", name := "<init>", desc := "()V" } : Jvm.MethodName)) ∈ kt_all := kt_mem (i := 36) (by decide +kernel) (by decide +kernel)
theorem kt_w15 : (Jvm.Cond.instanceMethod ({ cls := "java/lang/Object", name := "<init>", desc := "()V" } : Jvm.MethodName)) ∈ kt_all := kt_mem (i := 37) (by decide +kernel) (by decide +kernel)
theorem kt_w16 : (Jvm.Cond.code ({ cls := "java/lang/Object", name := "<init>", desc := "()V" } : Jvm.MethodName) object_method_1_code (1 : Nat) (Option.none : Option Jvm.ClassFile.FieldType)) ∈ kt_all := kt_mem (i := 38) (by decide +kernel) (by decide +kernel)
theorem kt_w17 : (Jvm.Cond.classLink "KeyCurve" (9 : Nat) "[[J") ∈ kt_all := kt_mem (i := 39) (by decide +kernel) (by decide +kernel)
theorem kt_w19 : (Jvm.Cond.classLink "KeyCurve" (14 : Nat) "KeyCurve$Spot") ∈ kt_all := kt_mem (i := 41) (by decide +kernel) (by decide +kernel)
theorem kt_w21 : (Jvm.Cond.instantiable "KeyCurve$Spot" (3 : Nat)) ∈ kt_all := kt_mem (i := 43) (by decide +kernel) (by decide +kernel)
theorem kt_w23 : (Jvm.Cond.instanceMethod ({ cls := "KeyCurve$Spot", name := "<init>", desc := "()V" } : Jvm.MethodName)) ∈ kt_all := kt_mem (i := 45) (by decide +kernel) (by decide +kernel)
theorem kt_w24 : (Jvm.Cond.code ({ cls := "KeyCurve$Spot", name := "<init>", desc := "()V" } : Jvm.MethodName) prog_4_method_1_code (1 : Nat) (Option.none : Option Jvm.ClassFile.FieldType)) ∈ kt_all := kt_mem (i := 46) (by decide +kernel) (by decide +kernel)
theorem kt_w25 : (Jvm.Cond.methodLink "KeyCurve$Spot" (3 : Nat) ({ cls := "java/lang/Object", name := "<init>", desc := "()V" } : Jvm.MethodName)) ∈ kt_all := kt_mem (i := 47) (by decide +kernel) (by decide +kernel)
theorem kt_w26 : (Jvm.Cond.fieldLink "KeyCurve$Spot" (9 : Nat) "KeyCurve$Spot" "x" "[J") ∈ kt_all := kt_mem (i := 48) (by decide +kernel) (by decide +kernel)
theorem kt_w27 : (Jvm.Cond.fieldLink "KeyCurve$Curve" (129 : Nat) "KeyCurve$Spot" "x" "[J") ∈ kt_all := kt_mem (i := 49) (by decide +kernel) (by decide +kernel)
theorem kt_w28 : (Jvm.Cond.fieldLink "KeyCurve" (124 : Nat) "KeyCurve$Spot" "x" "[J") ∈ kt_all := kt_mem (i := 50) (by decide +kernel) (by decide +kernel)
theorem kt_w29 : (Jvm.Cond.fieldLink "KeyCurve$Spot" (15 : Nat) "KeyCurve$Spot" "y" "[J") ∈ kt_all := kt_mem (i := 51) (by decide +kernel) (by decide +kernel)
theorem kt_w30 : (Jvm.Cond.fieldLink "KeyCurve$Curve" (130 : Nat) "KeyCurve$Spot" "y" "[J") ∈ kt_all := kt_mem (i := 52) (by decide +kernel) (by decide +kernel)
theorem kt_w31 : (Jvm.Cond.fieldLink "KeyCurve" (121 : Nat) "KeyCurve$Spot" "y" "[J") ∈ kt_all := kt_mem (i := 53) (by decide +kernel) (by decide +kernel)
theorem kt_w32 : (Jvm.Cond.fieldLink "KeyCurve$Spot" (18 : Nat) "KeyCurve$Spot" "isNone" "Z") ∈ kt_all := kt_mem (i := 54) (by decide +kernel) (by decide +kernel)
theorem kt_w33 : (Jvm.Cond.fieldLink "KeyCurve$Curve" (122 : Nat) "KeyCurve$Spot" "isNone" "Z") ∈ kt_all := kt_mem (i := 55) (by decide +kernel) (by decide +kernel)
theorem kt_w34 : (Jvm.Cond.fieldLink "KeyCurve" (96 : Nat) "KeyCurve$Spot" "isNone" "Z") ∈ kt_all := kt_mem (i := 56) (by decide +kernel) (by decide +kernel)
theorem kt_w35 : (Jvm.Cond.laysFinal "KeyCurve$Spot" "KeyCurve$Spot" "x" "[J") ∈ kt_all := kt_mem (i := 57) (by decide +kernel) (by decide +kernel)
theorem kt_w37 : (Jvm.Cond.laysFinal "KeyCurve$Spot" "KeyCurve$Spot" "y" "[J") ∈ kt_all := kt_mem (i := 59) (by decide +kernel) (by decide +kernel)
theorem kt_w39 : (Jvm.Cond.lays "KeyCurve$Spot" "KeyCurve$Spot" "isNone" "Z") ∈ kt_all := kt_mem (i := 61) (by decide +kernel) (by decide +kernel)
theorem kt_w42 : (Jvm.Cond.arrayClass Jvm.ClassFile.FieldType.long) ∈ kt_all := kt_mem (i := 64) (by decide +kernel) (by decide +kernel)
theorem kt_w43 : (Jvm.Cond.classLink "KeyCurve" (21 : Nat) "KeyCurve$Prime") ∈ kt_all := kt_mem (i := 65) (by decide +kernel) (by decide +kernel)
theorem kt_w44 : (Jvm.Cond.instantiable "KeyCurve$Prime" (9 : Nat)) ∈ kt_all := kt_mem (i := 66) (by decide +kernel) (by decide +kernel)
theorem kt_w45 : (Jvm.Cond.fieldLink "KeyCurve" (23 : Nat) "KeyCurve" "FIELD" "[J") ∈ kt_all := kt_mem (i := 67) (by decide +kernel) (by decide +kernel)
theorem kt_w47 : (Jvm.Cond.fieldLink "KeyCurve" (27 : Nat) "KeyCurve" "FIELD_GAP" "[J") ∈ kt_all := kt_mem (i := 69) (by decide +kernel) (by decide +kernel)
theorem kt_w49 : (Jvm.Cond.methodLink "KeyCurve" (30 : Nat) ({ cls := "KeyCurve$Prime", name := "<init>", desc := "([J[JI)V" } : Jvm.MethodName)) ∈ kt_all := kt_mem (i := 71) (by decide +kernel) (by decide +kernel)
theorem kt_w50 : (Jvm.Cond.instanceMethod ({ cls := "KeyCurve$Prime", name := "<init>", desc := "([J[JI)V" } : Jvm.MethodName)) ∈ kt_all := kt_mem (i := 72) (by decide +kernel) (by decide +kernel)
theorem kt_w51 : (Jvm.Cond.code ({ cls := "KeyCurve$Prime", name := "<init>", desc := "([J[JI)V" } : Jvm.MethodName) prog_3_method_1_code (4 : Nat) (Option.none : Option Jvm.ClassFile.FieldType)) ∈ kt_all := kt_mem (i := 73) (by decide +kernel) (by decide +kernel)
theorem kt_w52 : (Jvm.Cond.methodLink "KeyCurve$Prime" (3 : Nat) ({ cls := "java/lang/Object", name := "<init>", desc := "()V" } : Jvm.MethodName)) ∈ kt_all := kt_mem (i := 74) (by decide +kernel) (by decide +kernel)
theorem kt_w53 : (Jvm.Cond.methodLink "KeyCurve$Prime" (37 : Nat) ({ cls := "[J", name := "clone", desc := "()Ljava/lang/Object;" } : Jvm.MethodName)) ∈ kt_all := kt_mem (i := 75) (by decide +kernel) (by decide +kernel)
theorem kt_w56 : (Jvm.Cond.instanceMethod ({ cls := "java/lang/Object", name := "clone", desc := "()Ljava/lang/Object;" } : Jvm.MethodName)) ∈ kt_all := kt_mem (i := 78) (by decide +kernel) (by decide +kernel)
theorem kt_w57 : (Jvm.Cond.selects "[J" ({ cls := "[J", name := "clone", desc := "()Ljava/lang/Object;" } : Jvm.MethodName) ({ cls := "java/lang/Object", name := "clone", desc := "()Ljava/lang/Object;" } : Jvm.MethodName)) ∈ kt_all := kt_mem (i := 79) (by decide +kernel) (by decide +kernel)
theorem kt_w59 : (Jvm.Cond.classLink "KeyCurve$Prime" (38 : Nat) "[J") ∈ kt_all := kt_mem (i := 81) (by decide +kernel) (by decide +kernel)
theorem kt_w60 : (Jvm.Cond.constantLong "KeyCurve$Prime" (45 : Nat) (2 : Int64)) ∈ kt_all := kt_mem (i := 82) (by decide +kernel) (by decide +kernel)
theorem kt_w61 : (Jvm.Cond.fieldLink "KeyCurve$Prime" (27 : Nat) "KeyCurve$Prime" "prime" "[J") ∈ kt_all := kt_mem (i := 83) (by decide +kernel) (by decide +kernel)
theorem kt_w62 : (Jvm.Cond.fieldLink "KeyCurve$Prime" (30 : Nat) "KeyCurve$Prime" "gap" "[J") ∈ kt_all := kt_mem (i := 84) (by decide +kernel) (by decide +kernel)
theorem kt_w63 : (Jvm.Cond.fieldLink "KeyCurve$Prime" (33 : Nat) "KeyCurve$Prime" "gapWords" "I") ∈ kt_all := kt_mem (i := 85) (by decide +kernel) (by decide +kernel)
theorem kt_w64 : (Jvm.Cond.fieldLink "KeyCurve$Prime" (42 : Nat) "KeyCurve$Prime" "inversePower" "[J") ∈ kt_all := kt_mem (i := 86) (by decide +kernel) (by decide +kernel)
theorem kt_w65 : (Jvm.Cond.fieldLink "KeyCurve$Prime" (9 : Nat) "KeyCurve$Prime" "wide" "[J") ∈ kt_all := kt_mem (i := 87) (by decide +kernel) (by decide +kernel)
theorem kt_w66 : (Jvm.Cond.fieldLink "KeyCurve$Prime" (15 : Nat) "KeyCurve$Prime" "high" "[J") ∈ kt_all := kt_mem (i := 88) (by decide +kernel) (by decide +kernel)
theorem kt_w67 : (Jvm.Cond.fieldLink "KeyCurve$Prime" (18 : Nat) "KeyCurve$Prime" "seed" "[J") ∈ kt_all := kt_mem (i := 89) (by decide +kernel) (by decide +kernel)
theorem kt_w68 : (Jvm.Cond.fieldLink "KeyCurve$Prime" (21 : Nat) "KeyCurve$Prime" "grown" "[J") ∈ kt_all := kt_mem (i := 90) (by decide +kernel) (by decide +kernel)
theorem kt_w69 : (Jvm.Cond.fieldLink "KeyCurve$Prime" (24 : Nat) "KeyCurve$Prime" "trimmed" "[J") ∈ kt_all := kt_mem (i := 91) (by decide +kernel) (by decide +kernel)
theorem kt_w70 : (Jvm.Cond.laysFinal "KeyCurve$Prime" "KeyCurve$Prime" "prime" "[J") ∈ kt_all := kt_mem (i := 92) (by decide +kernel) (by decide +kernel)
theorem kt_w72 : (Jvm.Cond.laysFinal "KeyCurve$Prime" "KeyCurve$Prime" "gap" "[J") ∈ kt_all := kt_mem (i := 94) (by decide +kernel) (by decide +kernel)
theorem kt_w74 : (Jvm.Cond.laysFinal "KeyCurve$Prime" "KeyCurve$Prime" "gapWords" "I") ∈ kt_all := kt_mem (i := 96) (by decide +kernel) (by decide +kernel)
theorem kt_w76 : (Jvm.Cond.laysFinal "KeyCurve$Prime" "KeyCurve$Prime" "inversePower" "[J") ∈ kt_all := kt_mem (i := 98) (by decide +kernel) (by decide +kernel)
theorem kt_w78 : (Jvm.Cond.laysFinal "KeyCurve$Prime" "KeyCurve$Prime" "wide" "[J") ∈ kt_all := kt_mem (i := 100) (by decide +kernel) (by decide +kernel)
theorem kt_w80 : (Jvm.Cond.laysFinal "KeyCurve$Prime" "KeyCurve$Prime" "high" "[J") ∈ kt_all := kt_mem (i := 102) (by decide +kernel) (by decide +kernel)
theorem kt_w82 : (Jvm.Cond.laysFinal "KeyCurve$Prime" "KeyCurve$Prime" "seed" "[J") ∈ kt_all := kt_mem (i := 104) (by decide +kernel) (by decide +kernel)
theorem kt_w84 : (Jvm.Cond.laysFinal "KeyCurve$Prime" "KeyCurve$Prime" "grown" "[J") ∈ kt_all := kt_mem (i := 106) (by decide +kernel) (by decide +kernel)
theorem kt_w86 : (Jvm.Cond.laysFinal "KeyCurve$Prime" "KeyCurve$Prime" "trimmed" "[J") ∈ kt_all := kt_mem (i := 108) (by decide +kernel) (by decide +kernel)
theorem kt_w89 : (Jvm.Cond.fieldLink "KeyCurve" (37 : Nat) "KeyCurve" "ORDER" "[J") ∈ kt_all := kt_mem (i := 111) (by decide +kernel) (by decide +kernel)
theorem kt_w91 : (Jvm.Cond.fieldLink "KeyCurve" (40 : Nat) "KeyCurve" "ORDER_GAP" "[J") ∈ kt_all := kt_mem (i := 113) (by decide +kernel) (by decide +kernel)
theorem kt_w93 : (Jvm.Cond.classLink "KeyCurve" (46 : Nat) "KeyCurve$Curve") ∈ kt_all := kt_mem (i := 115) (by decide +kernel) (by decide +kernel)
theorem kt_w94 : (Jvm.Cond.instantiable "KeyCurve$Curve" (12 : Nat)) ∈ kt_all := kt_mem (i := 116) (by decide +kernel) (by decide +kernel)
theorem kt_w95 : (Jvm.Cond.methodLink "KeyCurve" (48 : Nat) ({ cls := "KeyCurve$Curve", name := "<init>", desc := "(LKeyCurve$Prime;)V" } : Jvm.MethodName)) ∈ kt_all := kt_mem (i := 117) (by decide +kernel) (by decide +kernel)
theorem kt_w96 : (Jvm.Cond.instanceMethod ({ cls := "KeyCurve$Curve", name := "<init>", desc := "(LKeyCurve$Prime;)V" } : Jvm.MethodName)) ∈ kt_all := kt_mem (i := 118) (by decide +kernel) (by decide +kernel)
theorem kt_w97 : (Jvm.Cond.code ({ cls := "KeyCurve$Curve", name := "<init>", desc := "(LKeyCurve$Prime;)V" } : Jvm.MethodName) prog_2_method_1_code (2 : Nat) (Option.none : Option Jvm.ClassFile.FieldType)) ∈ kt_all := kt_mem (i := 119) (by decide +kernel) (by decide +kernel)
theorem kt_w98 : (Jvm.Cond.methodLink "KeyCurve$Curve" (3 : Nat) ({ cls := "java/lang/Object", name := "<init>", desc := "()V" } : Jvm.MethodName)) ∈ kt_all := kt_mem (i := 120) (by decide +kernel) (by decide +kernel)
theorem kt_w99 : (Jvm.Cond.fieldLink "KeyCurve$Curve" (45 : Nat) "KeyCurve$Curve" "field" "LKeyCurve$Prime;") ∈ kt_all := kt_mem (i := 121) (by decide +kernel) (by decide +kernel)
theorem kt_w100 : (Jvm.Cond.fieldLink "KeyCurve$Curve" (9 : Nat) "KeyCurve$Curve" "x" "[J") ∈ kt_all := kt_mem (i := 122) (by decide +kernel) (by decide +kernel)
theorem kt_w101 : (Jvm.Cond.fieldLink "KeyCurve$Curve" (15 : Nat) "KeyCurve$Curve" "y" "[J") ∈ kt_all := kt_mem (i := 123) (by decide +kernel) (by decide +kernel)
theorem kt_w102 : (Jvm.Cond.fieldLink "KeyCurve$Curve" (18 : Nat) "KeyCurve$Curve" "z" "[J") ∈ kt_all := kt_mem (i := 124) (by decide +kernel) (by decide +kernel)
theorem kt_w103 : (Jvm.Cond.fieldLink "KeyCurve$Curve" (21 : Nat) "KeyCurve$Curve" "run" "[J") ∈ kt_all := kt_mem (i := 125) (by decide +kernel) (by decide +kernel)
theorem kt_w104 : (Jvm.Cond.fieldLink "KeyCurve$Curve" (24 : Nat) "KeyCurve$Curve" "rise" "[J") ∈ kt_all := kt_mem (i := 126) (by decide +kernel) (by decide +kernel)
theorem kt_w105 : (Jvm.Cond.fieldLink "KeyCurve$Curve" (27 : Nat) "KeyCurve$Curve" "square" "[J") ∈ kt_all := kt_mem (i := 127) (by decide +kernel) (by decide +kernel)
theorem kt_w106 : (Jvm.Cond.fieldLink "KeyCurve$Curve" (30 : Nat) "KeyCurve$Curve" "cube" "[J") ∈ kt_all := kt_mem (i := 128) (by decide +kernel) (by decide +kernel)
theorem kt_w107 : (Jvm.Cond.fieldLink "KeyCurve$Curve" (33 : Nat) "KeyCurve$Curve" "shared" "[J") ∈ kt_all := kt_mem (i := 129) (by decide +kernel) (by decide +kernel)
theorem kt_w108 : (Jvm.Cond.fieldLink "KeyCurve$Curve" (36 : Nat) "KeyCurve$Curve" "found" "[J") ∈ kt_all := kt_mem (i := 130) (by decide +kernel) (by decide +kernel)
theorem kt_w109 : (Jvm.Cond.fieldLink "KeyCurve$Curve" (39 : Nat) "KeyCurve$Curve" "wanted" "[J") ∈ kt_all := kt_mem (i := 131) (by decide +kernel) (by decide +kernel)
theorem kt_w110 : (Jvm.Cond.fieldLink "KeyCurve$Curve" (42 : Nat) "KeyCurve$Curve" "check" "[J") ∈ kt_all := kt_mem (i := 132) (by decide +kernel) (by decide +kernel)
theorem kt_w111 : (Jvm.Cond.laysFinal "KeyCurve$Curve" "KeyCurve$Curve" "field" "LKeyCurve$Prime;") ∈ kt_all := kt_mem (i := 133) (by decide +kernel) (by decide +kernel)
theorem kt_w113 : (Jvm.Cond.laysFinal "KeyCurve$Curve" "KeyCurve$Curve" "x" "[J") ∈ kt_all := kt_mem (i := 135) (by decide +kernel) (by decide +kernel)
theorem kt_w115 : (Jvm.Cond.laysFinal "KeyCurve$Curve" "KeyCurve$Curve" "y" "[J") ∈ kt_all := kt_mem (i := 137) (by decide +kernel) (by decide +kernel)
theorem kt_w117 : (Jvm.Cond.laysFinal "KeyCurve$Curve" "KeyCurve$Curve" "z" "[J") ∈ kt_all := kt_mem (i := 139) (by decide +kernel) (by decide +kernel)
theorem kt_w119 : (Jvm.Cond.laysFinal "KeyCurve$Curve" "KeyCurve$Curve" "run" "[J") ∈ kt_all := kt_mem (i := 141) (by decide +kernel) (by decide +kernel)
theorem kt_w121 : (Jvm.Cond.laysFinal "KeyCurve$Curve" "KeyCurve$Curve" "rise" "[J") ∈ kt_all := kt_mem (i := 143) (by decide +kernel) (by decide +kernel)
theorem kt_w123 : (Jvm.Cond.laysFinal "KeyCurve$Curve" "KeyCurve$Curve" "square" "[J") ∈ kt_all := kt_mem (i := 145) (by decide +kernel) (by decide +kernel)
theorem kt_w125 : (Jvm.Cond.laysFinal "KeyCurve$Curve" "KeyCurve$Curve" "cube" "[J") ∈ kt_all := kt_mem (i := 147) (by decide +kernel) (by decide +kernel)
theorem kt_w127 : (Jvm.Cond.laysFinal "KeyCurve$Curve" "KeyCurve$Curve" "shared" "[J") ∈ kt_all := kt_mem (i := 149) (by decide +kernel) (by decide +kernel)
theorem kt_w129 : (Jvm.Cond.laysFinal "KeyCurve$Curve" "KeyCurve$Curve" "found" "[J") ∈ kt_all := kt_mem (i := 151) (by decide +kernel) (by decide +kernel)
theorem kt_w131 : (Jvm.Cond.laysFinal "KeyCurve$Curve" "KeyCurve$Curve" "wanted" "[J") ∈ kt_all := kt_mem (i := 153) (by decide +kernel) (by decide +kernel)
theorem kt_w133 : (Jvm.Cond.laysFinal "KeyCurve$Curve" "KeyCurve$Curve" "check" "[J") ∈ kt_all := kt_mem (i := 155) (by decide +kernel) (by decide +kernel)
theorem kt_w136 : (Jvm.Cond.fieldLink "KeyCurve" (11 : Nat) "KeyCurve" "registers" "[[J") ∈ kt_all := kt_mem (i := 158) (by decide +kernel) (by decide +kernel)
theorem kt_w137 : (Jvm.Cond.fieldLink "KeyCurve" (16 : Nat) "KeyCurve" "points" "[LKeyCurve$Spot;") ∈ kt_all := kt_mem (i := 159) (by decide +kernel) (by decide +kernel)
theorem kt_w138 : (Jvm.Cond.fieldLink "KeyCurve" (33 : Nat) "KeyCurve" "field" "LKeyCurve$Prime;") ∈ kt_all := kt_mem (i := 160) (by decide +kernel) (by decide +kernel)
theorem kt_w139 : (Jvm.Cond.fieldLink "KeyCurve" (43 : Nat) "KeyCurve" "order" "LKeyCurve$Prime;") ∈ kt_all := kt_mem (i := 161) (by decide +kernel) (by decide +kernel)
theorem kt_w140 : (Jvm.Cond.fieldLink "KeyCurve" (51 : Nat) "KeyCurve" "curve" "LKeyCurve$Curve;") ∈ kt_all := kt_mem (i := 162) (by decide +kernel) (by decide +kernel)
theorem kt_w141 : (Jvm.Cond.laysFinal "KeyCurve" "KeyCurve" "registers" "[[J") ∈ kt_all := kt_mem (i := 163) (by decide +kernel) (by decide +kernel)
theorem kt_w143 : (Jvm.Cond.laysFinal "KeyCurve" "KeyCurve" "points" "[LKeyCurve$Spot;") ∈ kt_all := kt_mem (i := 165) (by decide +kernel) (by decide +kernel)
theorem kt_w145 : (Jvm.Cond.laysFinal "KeyCurve" "KeyCurve" "field" "LKeyCurve$Prime;") ∈ kt_all := kt_mem (i := 167) (by decide +kernel) (by decide +kernel)
theorem kt_w147 : (Jvm.Cond.laysFinal "KeyCurve" "KeyCurve" "order" "LKeyCurve$Prime;") ∈ kt_all := kt_mem (i := 169) (by decide +kernel) (by decide +kernel)
theorem kt_w149 : (Jvm.Cond.laysFinal "KeyCurve" "KeyCurve" "curve" "LKeyCurve$Curve;") ∈ kt_all := kt_mem (i := 171) (by decide +kernel) (by decide +kernel)
theorem kt_w152 : (Jvm.Cond.methodLink "KeyCurveLaw" (13 : Nat) ({ cls := "KeyCurve", name := "set", desc := "(III)I" } : Jvm.MethodName)) ∈ kt_all := kt_mem (i := 174) (by decide +kernel) (by decide +kernel)
theorem kt_w153 : (Jvm.Cond.instanceMethod ({ cls := "KeyCurve", name := "set", desc := "(III)I" } : Jvm.MethodName)) ∈ kt_all := kt_mem (i := 175) (by decide +kernel) (by decide +kernel)
theorem kt_w154 : (Jvm.Cond.selects "KeyCurve" ({ cls := "KeyCurve", name := "set", desc := "(III)I" } : Jvm.MethodName) ({ cls := "KeyCurve", name := "set", desc := "(III)I" } : Jvm.MethodName)) ∈ kt_all := kt_mem (i := 176) (by decide +kernel) (by decide +kernel)
theorem kt_w155 : (Jvm.Cond.code ({ cls := "KeyCurve", name := "set", desc := "(III)I" } : Jvm.MethodName) prog_1_method_2_code (6 : Nat) (Option.some Jvm.ClassFile.FieldType.int)) ∈ kt_all := kt_mem (i := 177) (by decide +kernel) (by decide +kernel)
theorem kt_w156 : (Jvm.Cond.methodLink "KeyCurve" (55 : Nat) ({ cls := "KeyCurve", name := "register", desc := "(I)[J" } : Jvm.MethodName)) ∈ kt_all := kt_mem (i := 178) (by decide +kernel) (by decide +kernel)
theorem kt_w158 : (Jvm.Cond.instanceMethod ({ cls := "KeyCurve", name := "register", desc := "(I)[J" } : Jvm.MethodName)) ∈ kt_all := kt_mem (i := 180) (by decide +kernel) (by decide +kernel)
theorem kt_w159 : (Jvm.Cond.code ({ cls := "KeyCurve", name := "register", desc := "(I)[J" } : Jvm.MethodName) prog_1_method_17_code (2 : Nat) (Option.some (Jvm.ClassFile.FieldType.array Jvm.ClassFile.FieldType.long))) ∈ kt_all := kt_mem (i := 181) (by decide +kernel) (by decide +kernel)
theorem kt_w160 : (Jvm.Cond.constantLong "KeyCurve" (59 : Nat) (4294967295 : Int64)) ∈ kt_all := kt_mem (i := 182) (by decide +kernel) (by decide +kernel)
theorem kt_w161 : (Jvm.Cond.methodLink "KeyCurveLaw" (18 : Nat) ({ cls := "KeyCurve", name := "get", desc := "(II)I" } : Jvm.MethodName)) ∈ kt_all := kt_mem (i := 183) (by decide +kernel) (by decide +kernel)
theorem kt_w162 : (Jvm.Cond.instanceMethod ({ cls := "KeyCurve", name := "get", desc := "(II)I" } : Jvm.MethodName)) ∈ kt_all := kt_mem (i := 184) (by decide +kernel) (by decide +kernel)
theorem kt_w163 : (Jvm.Cond.selects "KeyCurve" ({ cls := "KeyCurve", name := "get", desc := "(II)I" } : Jvm.MethodName) ({ cls := "KeyCurve", name := "get", desc := "(II)I" } : Jvm.MethodName)) ∈ kt_all := kt_mem (i := 185) (by decide +kernel) (by decide +kernel)
theorem kt_w164 : (Jvm.Cond.code ({ cls := "KeyCurve", name := "get", desc := "(II)I" } : Jvm.MethodName) prog_1_method_3_code (3 : Nat) (Option.some Jvm.ClassFile.FieldType.int)) ∈ kt_all := kt_mem (i := 186) (by decide +kernel) (by decide +kernel)
theorem kt_w165 : (Jvm.Cond.methodLink "KeyCurveLaw" (23 : Nat) ({ cls := "KeyCurve", name := "add", desc := "(IIIZ)V" } : Jvm.MethodName)) ∈ kt_all := kt_mem (i := 187) (by decide +kernel) (by decide +kernel)
theorem kt_w166 : (Jvm.Cond.instanceMethod ({ cls := "KeyCurve", name := "add", desc := "(IIIZ)V" } : Jvm.MethodName)) ∈ kt_all := kt_mem (i := 188) (by decide +kernel) (by decide +kernel)
theorem kt_w167 : (Jvm.Cond.selects "KeyCurve" ({ cls := "KeyCurve", name := "add", desc := "(IIIZ)V" } : Jvm.MethodName) ({ cls := "KeyCurve", name := "add", desc := "(IIIZ)V" } : Jvm.MethodName)) ∈ kt_all := kt_mem (i := 189) (by decide +kernel) (by decide +kernel)
theorem kt_w168 : (Jvm.Cond.code ({ cls := "KeyCurve", name := "add", desc := "(IIIZ)V" } : Jvm.MethodName) prog_1_method_4_code (5 : Nat) (Option.none : Option Jvm.ClassFile.FieldType)) ∈ kt_all := kt_mem (i := 190) (by decide +kernel) (by decide +kernel)
theorem kt_w169 : (Jvm.Cond.methodLink "KeyCurve" (61 : Nat) ({ cls := "KeyCurve", name := "prime", desc := "(Z)LKeyCurve$Prime;" } : Jvm.MethodName)) ∈ kt_all := kt_mem (i := 191) (by decide +kernel) (by decide +kernel)
theorem kt_w171 : (Jvm.Cond.instanceMethod ({ cls := "KeyCurve", name := "prime", desc := "(Z)LKeyCurve$Prime;" } : Jvm.MethodName)) ∈ kt_all := kt_mem (i := 193) (by decide +kernel) (by decide +kernel)
theorem kt_w172 : (Jvm.Cond.code ({ cls := "KeyCurve", name := "prime", desc := "(Z)LKeyCurve$Prime;" } : Jvm.MethodName) prog_1_method_19_code (2 : Nat) (Option.some (Jvm.ClassFile.FieldType.object "KeyCurve$Prime"))) ∈ kt_all := kt_mem (i := 194) (by decide +kernel) (by decide +kernel)
theorem kt_w173 : (Jvm.Cond.methodLink "KeyCurve" (65 : Nat) ({ cls := "KeyCurve$Prime", name := "sum", desc := "([J[J[J)V" } : Jvm.MethodName)) ∈ kt_all := kt_mem (i := 195) (by decide +kernel) (by decide +kernel)
theorem kt_w174 : (Jvm.Cond.instanceMethod ({ cls := "KeyCurve$Prime", name := "sum", desc := "([J[J[J)V" } : Jvm.MethodName)) ∈ kt_all := kt_mem (i := 196) (by decide +kernel) (by decide +kernel)
theorem kt_w175 : (Jvm.Cond.selects "KeyCurve$Prime" ({ cls := "KeyCurve$Prime", name := "sum", desc := "([J[J[J)V" } : Jvm.MethodName) ({ cls := "KeyCurve$Prime", name := "sum", desc := "([J[J[J)V" } : Jvm.MethodName)) ∈ kt_all := kt_mem (i := 197) (by decide +kernel) (by decide +kernel)
theorem kt_w176 : (Jvm.Cond.code ({ cls := "KeyCurve$Prime", name := "sum", desc := "([J[J[J)V" } : Jvm.MethodName) prog_3_method_2_code (7 : Nat) (Option.none : Option Jvm.ClassFile.FieldType)) ∈ kt_all := kt_mem (i := 198) (by decide +kernel) (by decide +kernel)
theorem kt_w177 : (Jvm.Cond.methodLink "KeyCurve$Prime" (47 : Nat) ({ cls := "KeyCurve$Words", name := "sumInto", desc := "([J[J[J)J" } : Jvm.MethodName)) ∈ kt_all := kt_mem (i := 199) (by decide +kernel) (by decide +kernel)
theorem kt_w178 : (Jvm.Cond.static ({ cls := "KeyCurve$Words", name := "sumInto", desc := "([J[J[J)J" } : Jvm.MethodName)) ∈ kt_all := kt_mem (i := 200) (by decide +kernel) (by decide +kernel)
theorem kt_w179 : (Jvm.Cond.code ({ cls := "KeyCurve$Words", name := "sumInto", desc := "([J[J[J)J" } : Jvm.MethodName) prog_5_method_8_code (8 : Nat) (Option.some Jvm.ClassFile.FieldType.long)) ∈ kt_all := kt_mem (i := 201) (by decide +kernel) (by decide +kernel)
theorem kt_w180 : (Jvm.Cond.constantLong "KeyCurve$Words" (15 : Nat) (4294967295 : Int64)) ∈ kt_all := kt_mem (i := 202) (by decide +kernel) (by decide +kernel)
theorem kt_w181 : (Jvm.Cond.methodLink "KeyCurve$Prime" (53 : Nat) ({ cls := "KeyCurve$Prime", name := "trim", desc := "([J)V" } : Jvm.MethodName)) ∈ kt_all := kt_mem (i := 203) (by decide +kernel) (by decide +kernel)
theorem kt_w182 : (Jvm.Cond.instanceMethod ({ cls := "KeyCurve$Prime", name := "trim", desc := "([J)V" } : Jvm.MethodName)) ∈ kt_all := kt_mem (i := 204) (by decide +kernel) (by decide +kernel)
theorem kt_w183 : (Jvm.Cond.selects "KeyCurve$Prime" ({ cls := "KeyCurve$Prime", name := "trim", desc := "([J)V" } : Jvm.MethodName) ({ cls := "KeyCurve$Prime", name := "trim", desc := "([J)V" } : Jvm.MethodName)) ∈ kt_all := kt_mem (i := 205) (by decide +kernel) (by decide +kernel)
theorem kt_w184 : (Jvm.Cond.code ({ cls := "KeyCurve$Prime", name := "trim", desc := "([J)V" } : Jvm.MethodName) prog_3_method_7_code (2 : Nat) (Option.none : Option Jvm.ClassFile.FieldType)) ∈ kt_all := kt_mem (i := 206) (by decide +kernel) (by decide +kernel)
theorem kt_w185 : (Jvm.Cond.methodLink "KeyCurve$Prime" (93 : Nat) ({ cls := "KeyCurve$Words", name := "isBelow", desc := "([J[J)Z" } : Jvm.MethodName)) ∈ kt_all := kt_mem (i := 207) (by decide +kernel) (by decide +kernel)
theorem kt_w186 : (Jvm.Cond.static ({ cls := "KeyCurve$Words", name := "isBelow", desc := "([J[J)Z" } : Jvm.MethodName)) ∈ kt_all := kt_mem (i := 208) (by decide +kernel) (by decide +kernel)
theorem kt_w187 : (Jvm.Cond.code ({ cls := "KeyCurve$Words", name := "isBelow", desc := "([J[J)Z" } : Jvm.MethodName) prog_5_method_5_code (3 : Nat) (Option.some Jvm.ClassFile.FieldType.boolean)) ∈ kt_all := kt_mem (i := 209) (by decide +kernel) (by decide +kernel)
theorem kt_w188 : (Jvm.Cond.methodLink "KeyCurve$Prime" (57 : Nat) ({ cls := "KeyCurve$Words", name := "differenceInto", desc := "([J[J[J)J" } : Jvm.MethodName)) ∈ kt_all := kt_mem (i := 210) (by decide +kernel) (by decide +kernel)
theorem kt_w189 : (Jvm.Cond.static ({ cls := "KeyCurve$Words", name := "differenceInto", desc := "([J[J[J)J" } : Jvm.MethodName)) ∈ kt_all := kt_mem (i := 211) (by decide +kernel) (by decide +kernel)
theorem kt_w190 : (Jvm.Cond.code ({ cls := "KeyCurve$Words", name := "differenceInto", desc := "([J[J[J)J" } : Jvm.MethodName) prog_5_method_9_code (8 : Nat) (Option.some Jvm.ClassFile.FieldType.long)) ∈ kt_all := kt_mem (i := 212) (by decide +kernel) (by decide +kernel)
theorem kt_w191 : (Jvm.Cond.methodLink "KeyCurveLaw" (28 : Nat) ({ cls := "KeyCurve", name := "subtract", desc := "(IIIZ)V" } : Jvm.MethodName)) ∈ kt_all := kt_mem (i := 213) (by decide +kernel) (by decide +kernel)
theorem kt_w192 : (Jvm.Cond.instanceMethod ({ cls := "KeyCurve", name := "subtract", desc := "(IIIZ)V" } : Jvm.MethodName)) ∈ kt_all := kt_mem (i := 214) (by decide +kernel) (by decide +kernel)
theorem kt_w193 : (Jvm.Cond.selects "KeyCurve" ({ cls := "KeyCurve", name := "subtract", desc := "(IIIZ)V" } : Jvm.MethodName) ({ cls := "KeyCurve", name := "subtract", desc := "(IIIZ)V" } : Jvm.MethodName)) ∈ kt_all := kt_mem (i := 215) (by decide +kernel) (by decide +kernel)
theorem kt_w194 : (Jvm.Cond.code ({ cls := "KeyCurve", name := "subtract", desc := "(IIIZ)V" } : Jvm.MethodName) prog_1_method_5_code (5 : Nat) (Option.none : Option Jvm.ClassFile.FieldType)) ∈ kt_all := kt_mem (i := 216) (by decide +kernel) (by decide +kernel)
theorem kt_w195 : (Jvm.Cond.methodLink "KeyCurve" (69 : Nat) ({ cls := "KeyCurve$Prime", name := "difference", desc := "([J[J[J)V" } : Jvm.MethodName)) ∈ kt_all := kt_mem (i := 217) (by decide +kernel) (by decide +kernel)
theorem kt_w196 : (Jvm.Cond.instanceMethod ({ cls := "KeyCurve$Prime", name := "difference", desc := "([J[J[J)V" } : Jvm.MethodName)) ∈ kt_all := kt_mem (i := 218) (by decide +kernel) (by decide +kernel)
theorem kt_w197 : (Jvm.Cond.selects "KeyCurve$Prime" ({ cls := "KeyCurve$Prime", name := "difference", desc := "([J[J[J)V" } : Jvm.MethodName) ({ cls := "KeyCurve$Prime", name := "difference", desc := "([J[J[J)V" } : Jvm.MethodName)) ∈ kt_all := kt_mem (i := 219) (by decide +kernel) (by decide +kernel)
theorem kt_w198 : (Jvm.Cond.code ({ cls := "KeyCurve$Prime", name := "difference", desc := "([J[J[J)V" } : Jvm.MethodName) prog_3_method_3_code (7 : Nat) (Option.none : Option Jvm.ClassFile.FieldType)) ∈ kt_all := kt_mem (i := 220) (by decide +kernel) (by decide +kernel)
theorem kt_w199 : (Jvm.Cond.methodLink "KeyCurveLaw" (32 : Nat) ({ cls := "KeyCurve", name := "multiply", desc := "(IIIZ)V" } : Jvm.MethodName)) ∈ kt_all := kt_mem (i := 221) (by decide +kernel) (by decide +kernel)
theorem kt_w200 : (Jvm.Cond.instanceMethod ({ cls := "KeyCurve", name := "multiply", desc := "(IIIZ)V" } : Jvm.MethodName)) ∈ kt_all := kt_mem (i := 222) (by decide +kernel) (by decide +kernel)
theorem kt_w201 : (Jvm.Cond.selects "KeyCurve" ({ cls := "KeyCurve", name := "multiply", desc := "(IIIZ)V" } : Jvm.MethodName) ({ cls := "KeyCurve", name := "multiply", desc := "(IIIZ)V" } : Jvm.MethodName)) ∈ kt_all := kt_mem (i := 223) (by decide +kernel) (by decide +kernel)
theorem kt_w202 : (Jvm.Cond.code ({ cls := "KeyCurve", name := "multiply", desc := "(IIIZ)V" } : Jvm.MethodName) prog_1_method_6_code (5 : Nat) (Option.none : Option Jvm.ClassFile.FieldType)) ∈ kt_all := kt_mem (i := 224) (by decide +kernel) (by decide +kernel)
theorem kt_w203 : (Jvm.Cond.methodLink "KeyCurve" (72 : Nat) ({ cls := "KeyCurve$Prime", name := "product", desc := "([J[J[J)V" } : Jvm.MethodName)) ∈ kt_all := kt_mem (i := 225) (by decide +kernel) (by decide +kernel)
theorem kt_w204 : (Jvm.Cond.instanceMethod ({ cls := "KeyCurve$Prime", name := "product", desc := "([J[J[J)V" } : Jvm.MethodName)) ∈ kt_all := kt_mem (i := 226) (by decide +kernel) (by decide +kernel)
theorem kt_w205 : (Jvm.Cond.selects "KeyCurve$Prime" ({ cls := "KeyCurve$Prime", name := "product", desc := "([J[J[J)V" } : Jvm.MethodName) ({ cls := "KeyCurve$Prime", name := "product", desc := "([J[J[J)V" } : Jvm.MethodName)) ∈ kt_all := kt_mem (i := 227) (by decide +kernel) (by decide +kernel)
theorem kt_w206 : (Jvm.Cond.code ({ cls := "KeyCurve$Prime", name := "product", desc := "([J[J[J)V" } : Jvm.MethodName) prog_3_method_4_code (5 : Nat) (Option.none : Option Jvm.ClassFile.FieldType)) ∈ kt_all := kt_mem (i := 228) (by decide +kernel) (by decide +kernel)
theorem kt_w207 : (Jvm.Cond.methodLink "KeyCurve$Prime" (60 : Nat) ({ cls := "KeyCurve$Prime", name := "addRow", desc := "(J[JII)V" } : Jvm.MethodName)) ∈ kt_all := kt_mem (i := 229) (by decide +kernel) (by decide +kernel)
theorem kt_w209 : (Jvm.Cond.instanceMethod ({ cls := "KeyCurve$Prime", name := "addRow", desc := "(J[JII)V" } : Jvm.MethodName)) ∈ kt_all := kt_mem (i := 231) (by decide +kernel) (by decide +kernel)
theorem kt_w210 : (Jvm.Cond.code ({ cls := "KeyCurve$Prime", name := "addRow", desc := "(J[JII)V" } : Jvm.MethodName) prog_3_method_10_code (11 : Nat) (Option.none : Option Jvm.ClassFile.FieldType)) ∈ kt_all := kt_mem (i := 232) (by decide +kernel) (by decide +kernel)
theorem kt_w211 : (Jvm.Cond.constantLong "KeyCurve$Prime" (97 : Nat) (4294967295 : Int64)) ∈ kt_all := kt_mem (i := 233) (by decide +kernel) (by decide +kernel)
theorem kt_w212 : (Jvm.Cond.methodLink "KeyCurve$Prime" (64 : Nat) ({ cls := "KeyCurve$Prime", name := "takeHigh", desc := "()Z" } : Jvm.MethodName)) ∈ kt_all := kt_mem (i := 234) (by decide +kernel) (by decide +kernel)
theorem kt_w214 : (Jvm.Cond.instanceMethod ({ cls := "KeyCurve$Prime", name := "takeHigh", desc := "()Z" } : Jvm.MethodName)) ∈ kt_all := kt_mem (i := 236) (by decide +kernel) (by decide +kernel)
theorem kt_w215 : (Jvm.Cond.code ({ cls := "KeyCurve$Prime", name := "takeHigh", desc := "()Z" } : Jvm.MethodName) prog_3_method_8_code (4 : Nat) (Option.some Jvm.ClassFile.FieldType.boolean)) ∈ kt_all := kt_mem (i := 237) (by decide +kernel) (by decide +kernel)
theorem kt_w216 : (Jvm.Cond.methodLink "KeyCurve$Prime" (68 : Nat) ({ cls := "KeyCurve$Prime", name := "fold", desc := "()V" } : Jvm.MethodName)) ∈ kt_all := kt_mem (i := 238) (by decide +kernel) (by decide +kernel)
theorem kt_w218 : (Jvm.Cond.instanceMethod ({ cls := "KeyCurve$Prime", name := "fold", desc := "()V" } : Jvm.MethodName)) ∈ kt_all := kt_mem (i := 240) (by decide +kernel) (by decide +kernel)
theorem kt_w219 : (Jvm.Cond.code ({ cls := "KeyCurve$Prime", name := "fold", desc := "()V" } : Jvm.MethodName) prog_3_method_9_code (2 : Nat) (Option.none : Option Jvm.ClassFile.FieldType)) ∈ kt_all := kt_mem (i := 241) (by decide +kernel) (by decide +kernel)
theorem kt_w220 : (Jvm.Cond.methodLink "KeyCurve$Prime" (71 : Nat) ({ cls := "KeyCurve$Words", name := "copy", desc := "([J[J)V" } : Jvm.MethodName)) ∈ kt_all := kt_mem (i := 242) (by decide +kernel) (by decide +kernel)
theorem kt_w221 : (Jvm.Cond.static ({ cls := "KeyCurve$Words", name := "copy", desc := "([J[J)V" } : Jvm.MethodName)) ∈ kt_all := kt_mem (i := 243) (by decide +kernel) (by decide +kernel)
theorem kt_w222 : (Jvm.Cond.code ({ cls := "KeyCurve$Words", name := "copy", desc := "([J[J)V" } : Jvm.MethodName) prog_5_method_2_code (2 : Nat) (Option.none : Option Jvm.ClassFile.FieldType)) ∈ kt_all := kt_mem (i := 244) (by decide +kernel) (by decide +kernel)
theorem kt_w223 : (Jvm.Cond.methodLink "KeyCurve$Words" (9 : Nat) ({ cls := "java/lang/System", name := "arraycopy", desc := "(Ljava/lang/Object;ILjava/lang/Object;II)V" } : Jvm.MethodName)) ∈ kt_all := kt_mem (i := 245) (by decide +kernel) (by decide +kernel)
theorem kt_w224 : (Jvm.Cond.static ({ cls := "java/lang/System", name := "arraycopy", desc := "(Ljava/lang/Object;ILjava/lang/Object;II)V" } : Jvm.MethodName)) ∈ kt_all := kt_mem (i := 246) (by decide +kernel) (by decide +kernel)
theorem kt_w226 : (Jvm.Cond.methodLink "KeyCurveLaw" (36 : Nat) ({ cls := "KeyCurve", name := "invert", desc := "(IIZ)Z" } : Jvm.MethodName)) ∈ kt_all := kt_mem (i := 248) (by decide +kernel) (by decide +kernel)
theorem kt_w227 : (Jvm.Cond.instanceMethod ({ cls := "KeyCurve", name := "invert", desc := "(IIZ)Z" } : Jvm.MethodName)) ∈ kt_all := kt_mem (i := 249) (by decide +kernel) (by decide +kernel)
theorem kt_w228 : (Jvm.Cond.selects "KeyCurve" ({ cls := "KeyCurve", name := "invert", desc := "(IIZ)Z" } : Jvm.MethodName) ({ cls := "KeyCurve", name := "invert", desc := "(IIZ)Z" } : Jvm.MethodName)) ∈ kt_all := kt_mem (i := 250) (by decide +kernel) (by decide +kernel)
theorem kt_w229 : (Jvm.Cond.code ({ cls := "KeyCurve", name := "invert", desc := "(IIZ)Z" } : Jvm.MethodName) prog_1_method_7_code (4 : Nat) (Option.some Jvm.ClassFile.FieldType.boolean)) ∈ kt_all := kt_mem (i := 251) (by decide +kernel) (by decide +kernel)
theorem kt_w230 : (Jvm.Cond.methodLink "KeyCurve" (75 : Nat) ({ cls := "KeyCurve$Prime", name := "inverse", desc := "([J[J)Z" } : Jvm.MethodName)) ∈ kt_all := kt_mem (i := 252) (by decide +kernel) (by decide +kernel)
theorem kt_w231 : (Jvm.Cond.instanceMethod ({ cls := "KeyCurve$Prime", name := "inverse", desc := "([J[J)Z" } : Jvm.MethodName)) ∈ kt_all := kt_mem (i := 253) (by decide +kernel) (by decide +kernel)
theorem kt_w232 : (Jvm.Cond.selects "KeyCurve$Prime" ({ cls := "KeyCurve$Prime", name := "inverse", desc := "([J[J)Z" } : Jvm.MethodName) ({ cls := "KeyCurve$Prime", name := "inverse", desc := "([J[J)Z" } : Jvm.MethodName)) ∈ kt_all := kt_mem (i := 254) (by decide +kernel) (by decide +kernel)
theorem kt_w233 : (Jvm.Cond.code ({ cls := "KeyCurve$Prime", name := "inverse", desc := "([J[J)Z" } : Jvm.MethodName) prog_3_method_6_code (3 : Nat) (Option.some Jvm.ClassFile.FieldType.boolean)) ∈ kt_all := kt_mem (i := 255) (by decide +kernel) (by decide +kernel)
theorem kt_w234 : (Jvm.Cond.methodLink "KeyCurve$Prime" (86 : Nat) ({ cls := "KeyCurve$Words", name := "isZero", desc := "([J)Z" } : Jvm.MethodName)) ∈ kt_all := kt_mem (i := 256) (by decide +kernel) (by decide +kernel)
theorem kt_w235 : (Jvm.Cond.static ({ cls := "KeyCurve$Words", name := "isZero", desc := "([J)Z" } : Jvm.MethodName)) ∈ kt_all := kt_mem (i := 257) (by decide +kernel) (by decide +kernel)
theorem kt_w236 : (Jvm.Cond.code ({ cls := "KeyCurve$Words", name := "isZero", desc := "([J)Z" } : Jvm.MethodName) prog_5_method_3_code (4 : Nat) (Option.some Jvm.ClassFile.FieldType.boolean)) ∈ kt_all := kt_mem (i := 258) (by decide +kernel) (by decide +kernel)
theorem kt_w237 : (Jvm.Cond.methodLink "KeyCurve$Prime" (90 : Nat) ({ cls := "KeyCurve$Prime", name := "power", desc := "([J[J[J)V" } : Jvm.MethodName)) ∈ kt_all := kt_mem (i := 259) (by decide +kernel) (by decide +kernel)
theorem kt_w238 : (Jvm.Cond.instanceMethod ({ cls := "KeyCurve$Prime", name := "power", desc := "([J[J[J)V" } : Jvm.MethodName)) ∈ kt_all := kt_mem (i := 260) (by decide +kernel) (by decide +kernel)
theorem kt_w239 : (Jvm.Cond.selects "KeyCurve$Prime" ({ cls := "KeyCurve$Prime", name := "power", desc := "([J[J[J)V" } : Jvm.MethodName) ({ cls := "KeyCurve$Prime", name := "power", desc := "([J[J[J)V" } : Jvm.MethodName)) ∈ kt_all := kt_mem (i := 261) (by decide +kernel) (by decide +kernel)
theorem kt_w240 : (Jvm.Cond.code ({ cls := "KeyCurve$Prime", name := "power", desc := "([J[J[J)V" } : Jvm.MethodName) prog_3_method_5_code (5 : Nat) (Option.none : Option Jvm.ClassFile.FieldType)) ∈ kt_all := kt_mem (i := 262) (by decide +kernel) (by decide +kernel)
theorem kt_w243 : (Jvm.Cond.methodLink "KeyCurve$Prime" (78 : Nat) ({ cls := "KeyCurve$Prime", name := "product", desc := "([J[J[J)V" } : Jvm.MethodName)) ∈ kt_all := kt_mem (i := 265) (by decide +kernel) (by decide +kernel)
theorem kt_w244 : (Jvm.Cond.methodLink "KeyCurve$Prime" (82 : Nat) ({ cls := "KeyCurve$Words", name := "hasBit", desc := "([JI)Z" } : Jvm.MethodName)) ∈ kt_all := kt_mem (i := 266) (by decide +kernel) (by decide +kernel)
theorem kt_w245 : (Jvm.Cond.static ({ cls := "KeyCurve$Words", name := "hasBit", desc := "([JI)Z" } : Jvm.MethodName)) ∈ kt_all := kt_mem (i := 267) (by decide +kernel) (by decide +kernel)
theorem kt_w246 : (Jvm.Cond.code ({ cls := "KeyCurve$Words", name := "hasBit", desc := "([JI)Z" } : Jvm.MethodName) prog_5_method_7_code (2 : Nat) (Option.some Jvm.ClassFile.FieldType.boolean)) ∈ kt_all := kt_mem (i := 268) (by decide +kernel) (by decide +kernel)
theorem kt_w247 : (Jvm.Cond.methodLink "KeyCurveLaw" (41 : Nat) ({ cls := "KeyCurve", name := "root", desc := "(II)Z" } : Jvm.MethodName)) ∈ kt_all := kt_mem (i := 269) (by decide +kernel) (by decide +kernel)
theorem kt_w248 : (Jvm.Cond.instanceMethod ({ cls := "KeyCurve", name := "root", desc := "(II)Z" } : Jvm.MethodName)) ∈ kt_all := kt_mem (i := 270) (by decide +kernel) (by decide +kernel)
theorem kt_w249 : (Jvm.Cond.selects "KeyCurve" ({ cls := "KeyCurve", name := "root", desc := "(II)Z" } : Jvm.MethodName) ({ cls := "KeyCurve", name := "root", desc := "(II)Z" } : Jvm.MethodName)) ∈ kt_all := kt_mem (i := 271) (by decide +kernel) (by decide +kernel)
theorem kt_w250 : (Jvm.Cond.code ({ cls := "KeyCurve", name := "root", desc := "(II)Z" } : Jvm.MethodName) prog_1_method_8_code (3 : Nat) (Option.some Jvm.ClassFile.FieldType.boolean)) ∈ kt_all := kt_mem (i := 272) (by decide +kernel) (by decide +kernel)
theorem kt_w251 : (Jvm.Cond.methodLink "KeyCurve" (79 : Nat) ({ cls := "KeyCurve$Curve", name := "evenRoot", desc := "([J[J)Z" } : Jvm.MethodName)) ∈ kt_all := kt_mem (i := 273) (by decide +kernel) (by decide +kernel)
theorem kt_w252 : (Jvm.Cond.instanceMethod ({ cls := "KeyCurve$Curve", name := "evenRoot", desc := "([J[J)Z" } : Jvm.MethodName)) ∈ kt_all := kt_mem (i := 274) (by decide +kernel) (by decide +kernel)
theorem kt_w253 : (Jvm.Cond.selects "KeyCurve$Curve" ({ cls := "KeyCurve$Curve", name := "evenRoot", desc := "([J[J)Z" } : Jvm.MethodName) ({ cls := "KeyCurve$Curve", name := "evenRoot", desc := "([J[J)Z" } : Jvm.MethodName)) ∈ kt_all := kt_mem (i := 275) (by decide +kernel) (by decide +kernel)
theorem kt_w254 : (Jvm.Cond.code ({ cls := "KeyCurve$Curve", name := "evenRoot", desc := "([J[J)Z" } : Jvm.MethodName) prog_2_method_2_code (3 : Nat) (Option.some Jvm.ClassFile.FieldType.boolean)) ∈ kt_all := kt_mem (i := 276) (by decide +kernel) (by decide +kernel)
theorem kt_w255 : (Jvm.Cond.methodLink "KeyCurve$Curve" (49 : Nat) ({ cls := "KeyCurve$Words", name := "copy", desc := "([J[J)V" } : Jvm.MethodName)) ∈ kt_all := kt_mem (i := 277) (by decide +kernel) (by decide +kernel)
theorem kt_w256 : (Jvm.Cond.methodLink "KeyCurve$Curve" (55 : Nat) ({ cls := "KeyCurve$Prime", name := "trim", desc := "([J)V" } : Jvm.MethodName)) ∈ kt_all := kt_mem (i := 278) (by decide +kernel) (by decide +kernel)
theorem kt_w259 : (Jvm.Cond.methodLink "KeyCurve$Curve" (64 : Nat) ({ cls := "KeyCurve$Prime", name := "power", desc := "([J[J[J)V" } : Jvm.MethodName)) ∈ kt_all := kt_mem (i := 281) (by decide +kernel) (by decide +kernel)
theorem kt_w260 : (Jvm.Cond.methodLink "KeyCurve$Curve" (68 : Nat) ({ cls := "KeyCurve$Prime", name := "product", desc := "([J[J[J)V" } : Jvm.MethodName)) ∈ kt_all := kt_mem (i := 282) (by decide +kernel) (by decide +kernel)
theorem kt_w261 : (Jvm.Cond.methodLink "KeyCurve$Curve" (71 : Nat) ({ cls := "KeyCurve$Words", name := "areEqual", desc := "([J[J)Z" } : Jvm.MethodName)) ∈ kt_all := kt_mem (i := 283) (by decide +kernel) (by decide +kernel)
theorem kt_w262 : (Jvm.Cond.static ({ cls := "KeyCurve$Words", name := "areEqual", desc := "([J[J)Z" } : Jvm.MethodName)) ∈ kt_all := kt_mem (i := 284) (by decide +kernel) (by decide +kernel)
theorem kt_w263 : (Jvm.Cond.code ({ cls := "KeyCurve$Words", name := "areEqual", desc := "([J[J)Z" } : Jvm.MethodName) prog_5_method_4_code (3 : Nat) (Option.some Jvm.ClassFile.FieldType.boolean)) ∈ kt_all := kt_mem (i := 285) (by decide +kernel) (by decide +kernel)
theorem kt_w264 : (Jvm.Cond.methodLink "KeyCurve$Curve" (75 : Nat) ({ cls := "KeyCurve$Words", name := "isOdd", desc := "([J)Z" } : Jvm.MethodName)) ∈ kt_all := kt_mem (i := 286) (by decide +kernel) (by decide +kernel)
theorem kt_w265 : (Jvm.Cond.static ({ cls := "KeyCurve$Words", name := "isOdd", desc := "([J)Z" } : Jvm.MethodName)) ∈ kt_all := kt_mem (i := 287) (by decide +kernel) (by decide +kernel)
theorem kt_w266 : (Jvm.Cond.code ({ cls := "KeyCurve$Words", name := "isOdd", desc := "([J)Z" } : Jvm.MethodName) prog_5_method_6_code (1 : Nat) (Option.some Jvm.ClassFile.FieldType.boolean)) ∈ kt_all := kt_mem (i := 288) (by decide +kernel) (by decide +kernel)
theorem kt_w268 : (Jvm.Cond.methodLink "KeyCurve$Curve" (82 : Nat) ({ cls := "KeyCurve$Prime", name := "difference", desc := "([J[J[J)V" } : Jvm.MethodName)) ∈ kt_all := kt_mem (i := 290) (by decide +kernel) (by decide +kernel)
theorem kt_w269 : (Jvm.Cond.methodLink "KeyCurveLaw" (46 : Nat) ({ cls := "KeyCurve", name := "base", desc := "(I)V" } : Jvm.MethodName)) ∈ kt_all := kt_mem (i := 291) (by decide +kernel) (by decide +kernel)
theorem kt_w270 : (Jvm.Cond.instanceMethod ({ cls := "KeyCurve", name := "base", desc := "(I)V" } : Jvm.MethodName)) ∈ kt_all := kt_mem (i := 292) (by decide +kernel) (by decide +kernel)
theorem kt_w271 : (Jvm.Cond.selects "KeyCurve" ({ cls := "KeyCurve", name := "base", desc := "(I)V" } : Jvm.MethodName) ({ cls := "KeyCurve", name := "base", desc := "(I)V" } : Jvm.MethodName)) ∈ kt_all := kt_mem (i := 293) (by decide +kernel) (by decide +kernel)
theorem kt_w272 : (Jvm.Cond.code ({ cls := "KeyCurve", name := "base", desc := "(I)V" } : Jvm.MethodName) prog_1_method_9_code (2 : Nat) (Option.none : Option Jvm.ClassFile.FieldType)) ∈ kt_all := kt_mem (i := 294) (by decide +kernel) (by decide +kernel)
theorem kt_w273 : (Jvm.Cond.methodLink "KeyCurve" (82 : Nat) ({ cls := "KeyCurve", name := "spot", desc := "(I)LKeyCurve$Spot;" } : Jvm.MethodName)) ∈ kt_all := kt_mem (i := 295) (by decide +kernel) (by decide +kernel)
theorem kt_w275 : (Jvm.Cond.instanceMethod ({ cls := "KeyCurve", name := "spot", desc := "(I)LKeyCurve$Spot;" } : Jvm.MethodName)) ∈ kt_all := kt_mem (i := 297) (by decide +kernel) (by decide +kernel)
theorem kt_w276 : (Jvm.Cond.code ({ cls := "KeyCurve", name := "spot", desc := "(I)LKeyCurve$Spot;" } : Jvm.MethodName) prog_1_method_18_code (2 : Nat) (Option.some (Jvm.ClassFile.FieldType.object "KeyCurve$Spot"))) ∈ kt_all := kt_mem (i := 298) (by decide +kernel) (by decide +kernel)
theorem kt_w277 : (Jvm.Cond.fieldLink "KeyCurve" (86 : Nat) "KeyCurve" "BASE_X" "[J") ∈ kt_all := kt_mem (i := 299) (by decide +kernel) (by decide +kernel)
theorem kt_w279 : (Jvm.Cond.fieldLink "KeyCurve" (89 : Nat) "KeyCurve" "BASE_Y" "[J") ∈ kt_all := kt_mem (i := 301) (by decide +kernel) (by decide +kernel)
theorem kt_w281 : (Jvm.Cond.methodLink "KeyCurve" (92 : Nat) ({ cls := "KeyCurve$Spot", name := "become", desc := "([J[J)V" } : Jvm.MethodName)) ∈ kt_all := kt_mem (i := 303) (by decide +kernel) (by decide +kernel)
theorem kt_w282 : (Jvm.Cond.instanceMethod ({ cls := "KeyCurve$Spot", name := "become", desc := "([J[J)V" } : Jvm.MethodName)) ∈ kt_all := kt_mem (i := 304) (by decide +kernel) (by decide +kernel)
theorem kt_w283 : (Jvm.Cond.selects "KeyCurve$Spot" ({ cls := "KeyCurve$Spot", name := "become", desc := "([J[J)V" } : Jvm.MethodName) ({ cls := "KeyCurve$Spot", name := "become", desc := "([J[J)V" } : Jvm.MethodName)) ∈ kt_all := kt_mem (i := 305) (by decide +kernel) (by decide +kernel)
theorem kt_w284 : (Jvm.Cond.code ({ cls := "KeyCurve$Spot", name := "become", desc := "([J[J)V" } : Jvm.MethodName) prog_4_method_2_code (3 : Nat) (Option.none : Option Jvm.ClassFile.FieldType)) ∈ kt_all := kt_mem (i := 306) (by decide +kernel) (by decide +kernel)
theorem kt_w285 : (Jvm.Cond.methodLink "KeyCurve$Spot" (22 : Nat) ({ cls := "KeyCurve$Words", name := "copy", desc := "([J[J)V" } : Jvm.MethodName)) ∈ kt_all := kt_mem (i := 307) (by decide +kernel) (by decide +kernel)
theorem kt_w286 : (Jvm.Cond.methodLink "KeyCurveLaw" (51 : Nat) ({ cls := "KeyCurve", name := "none", desc := "(I)V" } : Jvm.MethodName)) ∈ kt_all := kt_mem (i := 308) (by decide +kernel) (by decide +kernel)
theorem kt_w287 : (Jvm.Cond.instanceMethod ({ cls := "KeyCurve", name := "none", desc := "(I)V" } : Jvm.MethodName)) ∈ kt_all := kt_mem (i := 309) (by decide +kernel) (by decide +kernel)
theorem kt_w288 : (Jvm.Cond.selects "KeyCurve" ({ cls := "KeyCurve", name := "none", desc := "(I)V" } : Jvm.MethodName) ({ cls := "KeyCurve", name := "none", desc := "(I)V" } : Jvm.MethodName)) ∈ kt_all := kt_mem (i := 310) (by decide +kernel) (by decide +kernel)
theorem kt_w289 : (Jvm.Cond.code ({ cls := "KeyCurve", name := "none", desc := "(I)V" } : Jvm.MethodName) prog_1_method_10_code (2 : Nat) (Option.none : Option Jvm.ClassFile.FieldType)) ∈ kt_all := kt_mem (i := 311) (by decide +kernel) (by decide +kernel)
theorem kt_w290 : (Jvm.Cond.methodLink "KeyCurveLaw" (55 : Nat) ({ cls := "KeyCurve", name := "point", desc := "(III)Z" } : Jvm.MethodName)) ∈ kt_all := kt_mem (i := 312) (by decide +kernel) (by decide +kernel)
theorem kt_w291 : (Jvm.Cond.instanceMethod ({ cls := "KeyCurve", name := "point", desc := "(III)Z" } : Jvm.MethodName)) ∈ kt_all := kt_mem (i := 313) (by decide +kernel) (by decide +kernel)
theorem kt_w292 : (Jvm.Cond.selects "KeyCurve" ({ cls := "KeyCurve", name := "point", desc := "(III)Z" } : Jvm.MethodName) ({ cls := "KeyCurve", name := "point", desc := "(III)Z" } : Jvm.MethodName)) ∈ kt_all := kt_mem (i := 314) (by decide +kernel) (by decide +kernel)
theorem kt_w293 : (Jvm.Cond.code ({ cls := "KeyCurve", name := "point", desc := "(III)Z" } : Jvm.MethodName) prog_1_method_11_code (4 : Nat) (Option.some Jvm.ClassFile.FieldType.boolean)) ∈ kt_all := kt_mem (i := 315) (by decide +kernel) (by decide +kernel)
theorem kt_w294 : (Jvm.Cond.methodLink "KeyCurve" (100 : Nat) ({ cls := "KeyCurve$Curve", name := "holds", desc := "([J[J)Z" } : Jvm.MethodName)) ∈ kt_all := kt_mem (i := 316) (by decide +kernel) (by decide +kernel)
theorem kt_w295 : (Jvm.Cond.instanceMethod ({ cls := "KeyCurve$Curve", name := "holds", desc := "([J[J)Z" } : Jvm.MethodName)) ∈ kt_all := kt_mem (i := 317) (by decide +kernel) (by decide +kernel)
theorem kt_w296 : (Jvm.Cond.selects "KeyCurve$Curve" ({ cls := "KeyCurve$Curve", name := "holds", desc := "([J[J)Z" } : Jvm.MethodName) ({ cls := "KeyCurve$Curve", name := "holds", desc := "([J[J)Z" } : Jvm.MethodName)) ∈ kt_all := kt_mem (i := 318) (by decide +kernel) (by decide +kernel)
theorem kt_w297 : (Jvm.Cond.code ({ cls := "KeyCurve$Curve", name := "holds", desc := "([J[J)Z" } : Jvm.MethodName) prog_2_method_3_code (3 : Nat) (Option.some Jvm.ClassFile.FieldType.boolean)) ∈ kt_all := kt_mem (i := 319) (by decide +kernel) (by decide +kernel)
theorem kt_w298 : (Jvm.Cond.methodLink "KeyCurve$Curve" (85 : Nat) ({ cls := "KeyCurve$Words", name := "isBelow", desc := "([J[J)Z" } : Jvm.MethodName)) ∈ kt_all := kt_mem (i := 320) (by decide +kernel) (by decide +kernel)
theorem kt_w299 : (Jvm.Cond.methodLink "KeyCurve$Curve" (88 : Nat) ({ cls := "KeyCurve$Curve", name := "putSquareOfY", desc := "([J[J)V" } : Jvm.MethodName)) ∈ kt_all := kt_mem (i := 321) (by decide +kernel) (by decide +kernel)
theorem kt_w301 : (Jvm.Cond.instanceMethod ({ cls := "KeyCurve$Curve", name := "putSquareOfY", desc := "([J[J)V" } : Jvm.MethodName)) ∈ kt_all := kt_mem (i := 323) (by decide +kernel) (by decide +kernel)
theorem kt_w302 : (Jvm.Cond.code ({ cls := "KeyCurve$Curve", name := "putSquareOfY", desc := "([J[J)V" } : Jvm.MethodName) prog_2_method_5_code (3 : Nat) (Option.none : Option Jvm.ClassFile.FieldType)) ∈ kt_all := kt_mem (i := 324) (by decide +kernel) (by decide +kernel)
theorem kt_w305 : (Jvm.Cond.methodLink "KeyCurve$Curve" (102 : Nat) ({ cls := "KeyCurve$Prime", name := "sum", desc := "([J[J[J)V" } : Jvm.MethodName)) ∈ kt_all := kt_mem (i := 327) (by decide +kernel) (by decide +kernel)
theorem kt_w306 : (Jvm.Cond.methodLink "KeyCurveLaw" (60 : Nat) ({ cls := "KeyCurve", name := "lift", desc := "(IIZ)Z" } : Jvm.MethodName)) ∈ kt_all := kt_mem (i := 328) (by decide +kernel) (by decide +kernel)
theorem kt_w307 : (Jvm.Cond.instanceMethod ({ cls := "KeyCurve", name := "lift", desc := "(IIZ)Z" } : Jvm.MethodName)) ∈ kt_all := kt_mem (i := 329) (by decide +kernel) (by decide +kernel)
theorem kt_w308 : (Jvm.Cond.selects "KeyCurve" ({ cls := "KeyCurve", name := "lift", desc := "(IIZ)Z" } : Jvm.MethodName) ({ cls := "KeyCurve", name := "lift", desc := "(IIZ)Z" } : Jvm.MethodName)) ∈ kt_all := kt_mem (i := 330) (by decide +kernel) (by decide +kernel)
theorem kt_w309 : (Jvm.Cond.code ({ cls := "KeyCurve", name := "lift", desc := "(IIZ)Z" } : Jvm.MethodName) prog_1_method_12_code (4 : Nat) (Option.some Jvm.ClassFile.FieldType.boolean)) ∈ kt_all := kt_mem (i := 331) (by decide +kernel) (by decide +kernel)
theorem kt_w310 : (Jvm.Cond.methodLink "KeyCurve" (103 : Nat) ({ cls := "KeyCurve$Curve", name := "findByX", desc := "(LKeyCurve$Spot;[JZ)Z" } : Jvm.MethodName)) ∈ kt_all := kt_mem (i := 332) (by decide +kernel) (by decide +kernel)
theorem kt_w311 : (Jvm.Cond.instanceMethod ({ cls := "KeyCurve$Curve", name := "findByX", desc := "(LKeyCurve$Spot;[JZ)Z" } : Jvm.MethodName)) ∈ kt_all := kt_mem (i := 333) (by decide +kernel) (by decide +kernel)
theorem kt_w312 : (Jvm.Cond.selects "KeyCurve$Curve" ({ cls := "KeyCurve$Curve", name := "findByX", desc := "(LKeyCurve$Spot;[JZ)Z" } : Jvm.MethodName) ({ cls := "KeyCurve$Curve", name := "findByX", desc := "(LKeyCurve$Spot;[JZ)Z" } : Jvm.MethodName)) ∈ kt_all := kt_mem (i := 334) (by decide +kernel) (by decide +kernel)
theorem kt_w313 : (Jvm.Cond.code ({ cls := "KeyCurve$Curve", name := "findByX", desc := "(LKeyCurve$Spot;[JZ)Z" } : Jvm.MethodName) prog_2_method_4_code (4 : Nat) (Option.some Jvm.ClassFile.FieldType.boolean)) ∈ kt_all := kt_mem (i := 335) (by decide +kernel) (by decide +kernel)
theorem kt_w314 : (Jvm.Cond.methodLink "KeyCurve$Curve" (91 : Nat) ({ cls := "KeyCurve$Curve", name := "evenRoot", desc := "([J[J)Z" } : Jvm.MethodName)) ∈ kt_all := kt_mem (i := 336) (by decide +kernel) (by decide +kernel)
theorem kt_w315 : (Jvm.Cond.methodLink "KeyCurve$Curve" (94 : Nat) ({ cls := "KeyCurve$Spot", name := "become", desc := "([J[J)V" } : Jvm.MethodName)) ∈ kt_all := kt_mem (i := 337) (by decide +kernel) (by decide +kernel)
theorem kt_w316 : (Jvm.Cond.methodLink "KeyCurveLaw" (64 : Nat) ({ cls := "KeyCurve", name := "plus", desc := "(III)V" } : Jvm.MethodName)) ∈ kt_all := kt_mem (i := 338) (by decide +kernel) (by decide +kernel)
theorem kt_w317 : (Jvm.Cond.instanceMethod ({ cls := "KeyCurve", name := "plus", desc := "(III)V" } : Jvm.MethodName)) ∈ kt_all := kt_mem (i := 339) (by decide +kernel) (by decide +kernel)
theorem kt_w318 : (Jvm.Cond.selects "KeyCurve" ({ cls := "KeyCurve", name := "plus", desc := "(III)V" } : Jvm.MethodName) ({ cls := "KeyCurve", name := "plus", desc := "(III)V" } : Jvm.MethodName)) ∈ kt_all := kt_mem (i := 340) (by decide +kernel) (by decide +kernel)
theorem kt_w319 : (Jvm.Cond.code ({ cls := "KeyCurve", name := "plus", desc := "(III)V" } : Jvm.MethodName) prog_1_method_13_code (4 : Nat) (Option.none : Option Jvm.ClassFile.FieldType)) ∈ kt_all := kt_mem (i := 341) (by decide +kernel) (by decide +kernel)
theorem kt_w320 : (Jvm.Cond.methodLink "KeyCurve" (107 : Nat) ({ cls := "KeyCurve$Curve", name := "start", desc := "()V" } : Jvm.MethodName)) ∈ kt_all := kt_mem (i := 342) (by decide +kernel) (by decide +kernel)
theorem kt_w321 : (Jvm.Cond.instanceMethod ({ cls := "KeyCurve$Curve", name := "start", desc := "()V" } : Jvm.MethodName)) ∈ kt_all := kt_mem (i := 343) (by decide +kernel) (by decide +kernel)
theorem kt_w322 : (Jvm.Cond.selects "KeyCurve$Curve" ({ cls := "KeyCurve$Curve", name := "start", desc := "()V" } : Jvm.MethodName) ({ cls := "KeyCurve$Curve", name := "start", desc := "()V" } : Jvm.MethodName)) ∈ kt_all := kt_mem (i := 344) (by decide +kernel) (by decide +kernel)
theorem kt_w323 : (Jvm.Cond.code ({ cls := "KeyCurve$Curve", name := "start", desc := "()V" } : Jvm.MethodName) prog_2_method_6_code (2 : Nat) (Option.none : Option Jvm.ClassFile.FieldType)) ∈ kt_all := kt_mem (i := 345) (by decide +kernel) (by decide +kernel)
theorem kt_w325 : (Jvm.Cond.methodLink "KeyCurve" (110 : Nat) ({ cls := "KeyCurve$Curve", name := "join", desc := "(LKeyCurve$Spot;)V" } : Jvm.MethodName)) ∈ kt_all := kt_mem (i := 347) (by decide +kernel) (by decide +kernel)
theorem kt_w326 : (Jvm.Cond.instanceMethod ({ cls := "KeyCurve$Curve", name := "join", desc := "(LKeyCurve$Spot;)V" } : Jvm.MethodName)) ∈ kt_all := kt_mem (i := 348) (by decide +kernel) (by decide +kernel)
theorem kt_w327 : (Jvm.Cond.selects "KeyCurve$Curve" ({ cls := "KeyCurve$Curve", name := "join", desc := "(LKeyCurve$Spot;)V" } : Jvm.MethodName) ({ cls := "KeyCurve$Curve", name := "join", desc := "(LKeyCurve$Spot;)V" } : Jvm.MethodName)) ∈ kt_all := kt_mem (i := 349) (by decide +kernel) (by decide +kernel)
theorem kt_w328 : (Jvm.Cond.code ({ cls := "KeyCurve$Curve", name := "join", desc := "(LKeyCurve$Spot;)V" } : Jvm.MethodName) prog_2_method_8_code (2 : Nat) (Option.none : Option Jvm.ClassFile.FieldType)) ∈ kt_all := kt_mem (i := 350) (by decide +kernel) (by decide +kernel)
theorem kt_w329 : (Jvm.Cond.methodLink "KeyCurve$Curve" (126 : Nat) ({ cls := "KeyCurve$Words", name := "isZero", desc := "([J)Z" } : Jvm.MethodName)) ∈ kt_all := kt_mem (i := 351) (by decide +kernel) (by decide +kernel)
theorem kt_w330 : (Jvm.Cond.methodLink "KeyCurve$Curve" (131 : Nat) ({ cls := "KeyCurve$Curve", name := "measureLine", desc := "(LKeyCurve$Spot;)V" } : Jvm.MethodName)) ∈ kt_all := kt_mem (i := 352) (by decide +kernel) (by decide +kernel)
theorem kt_w332 : (Jvm.Cond.instanceMethod ({ cls := "KeyCurve$Curve", name := "measureLine", desc := "(LKeyCurve$Spot;)V" } : Jvm.MethodName)) ∈ kt_all := kt_mem (i := 354) (by decide +kernel) (by decide +kernel)
theorem kt_w333 : (Jvm.Cond.code ({ cls := "KeyCurve$Curve", name := "measureLine", desc := "(LKeyCurve$Spot;)V" } : Jvm.MethodName) prog_2_method_9_code (2 : Nat) (Option.none : Option Jvm.ClassFile.FieldType)) ∈ kt_all := kt_mem (i := 355) (by decide +kernel) (by decide +kernel)
theorem kt_w334 : (Jvm.Cond.methodLink "KeyCurve$Curve" (134 : Nat) ({ cls := "KeyCurve$Curve", name := "followLine", desc := "()V" } : Jvm.MethodName)) ∈ kt_all := kt_mem (i := 356) (by decide +kernel) (by decide +kernel)
theorem kt_w336 : (Jvm.Cond.instanceMethod ({ cls := "KeyCurve$Curve", name := "followLine", desc := "()V" } : Jvm.MethodName)) ∈ kt_all := kt_mem (i := 358) (by decide +kernel) (by decide +kernel)
theorem kt_w337 : (Jvm.Cond.code ({ cls := "KeyCurve$Curve", name := "followLine", desc := "()V" } : Jvm.MethodName) prog_2_method_10_code (1 : Nat) (Option.none : Option Jvm.ClassFile.FieldType)) ∈ kt_all := kt_mem (i := 359) (by decide +kernel) (by decide +kernel)
theorem kt_w338 : (Jvm.Cond.methodLink "KeyCurve$Curve" (111 : Nat) ({ cls := "KeyCurve$Curve", name := "twice", desc := "()V" } : Jvm.MethodName)) ∈ kt_all := kt_mem (i := 360) (by decide +kernel) (by decide +kernel)
theorem kt_w340 : (Jvm.Cond.instanceMethod ({ cls := "KeyCurve$Curve", name := "twice", desc := "()V" } : Jvm.MethodName)) ∈ kt_all := kt_mem (i := 362) (by decide +kernel) (by decide +kernel)
theorem kt_w341 : (Jvm.Cond.code ({ cls := "KeyCurve$Curve", name := "twice", desc := "()V" } : Jvm.MethodName) prog_2_method_11_code (1 : Nat) (Option.none : Option Jvm.ClassFile.FieldType)) ∈ kt_all := kt_mem (i := 363) (by decide +kernel) (by decide +kernel)
theorem kt_w342 : (Jvm.Cond.methodLink "KeyCurve$Curve" (108 : Nat) ({ cls := "KeyCurve$Curve", name := "start", desc := "()V" } : Jvm.MethodName)) ∈ kt_all := kt_mem (i := 364) (by decide +kernel) (by decide +kernel)
theorem kt_w343 : (Jvm.Cond.methodLink "KeyCurve" (114 : Nat) ({ cls := "KeyCurve$Curve", name := "finish", desc := "(LKeyCurve$Spot;)V" } : Jvm.MethodName)) ∈ kt_all := kt_mem (i := 365) (by decide +kernel) (by decide +kernel)
theorem kt_w344 : (Jvm.Cond.instanceMethod ({ cls := "KeyCurve$Curve", name := "finish", desc := "(LKeyCurve$Spot;)V" } : Jvm.MethodName)) ∈ kt_all := kt_mem (i := 366) (by decide +kernel) (by decide +kernel)
theorem kt_w345 : (Jvm.Cond.selects "KeyCurve$Curve" ({ cls := "KeyCurve$Curve", name := "finish", desc := "(LKeyCurve$Spot;)V" } : Jvm.MethodName) ({ cls := "KeyCurve$Curve", name := "finish", desc := "(LKeyCurve$Spot;)V" } : Jvm.MethodName)) ∈ kt_all := kt_mem (i := 367) (by decide +kernel) (by decide +kernel)
theorem kt_w346 : (Jvm.Cond.code ({ cls := "KeyCurve$Curve", name := "finish", desc := "(LKeyCurve$Spot;)V" } : Jvm.MethodName) prog_2_method_12_code (2 : Nat) (Option.none : Option Jvm.ClassFile.FieldType)) ∈ kt_all := kt_mem (i := 368) (by decide +kernel) (by decide +kernel)
theorem kt_w347 : (Jvm.Cond.methodLink "KeyCurve$Curve" (137 : Nat) ({ cls := "KeyCurve$Prime", name := "inverse", desc := "([J[J)Z" } : Jvm.MethodName)) ∈ kt_all := kt_mem (i := 369) (by decide +kernel) (by decide +kernel)
theorem kt_w348 : (Jvm.Cond.methodLink "KeyCurveLaw" (69 : Nat) ({ cls := "KeyCurve", name := "times", desc := "(III)V" } : Jvm.MethodName)) ∈ kt_all := kt_mem (i := 370) (by decide +kernel) (by decide +kernel)
theorem kt_w349 : (Jvm.Cond.instanceMethod ({ cls := "KeyCurve", name := "times", desc := "(III)V" } : Jvm.MethodName)) ∈ kt_all := kt_mem (i := 371) (by decide +kernel) (by decide +kernel)
theorem kt_w350 : (Jvm.Cond.selects "KeyCurve" ({ cls := "KeyCurve", name := "times", desc := "(III)V" } : Jvm.MethodName) ({ cls := "KeyCurve", name := "times", desc := "(III)V" } : Jvm.MethodName)) ∈ kt_all := kt_mem (i := 372) (by decide +kernel) (by decide +kernel)
theorem kt_w351 : (Jvm.Cond.code ({ cls := "KeyCurve", name := "times", desc := "(III)V" } : Jvm.MethodName) prog_1_method_14_code (4 : Nat) (Option.none : Option Jvm.ClassFile.FieldType)) ∈ kt_all := kt_mem (i := 373) (by decide +kernel) (by decide +kernel)
theorem kt_w352 : (Jvm.Cond.methodLink "KeyCurve" (117 : Nat) ({ cls := "KeyCurve$Curve", name := "startMultiple", desc := "(LKeyCurve$Spot;[J)V" } : Jvm.MethodName)) ∈ kt_all := kt_mem (i := 374) (by decide +kernel) (by decide +kernel)
theorem kt_w353 : (Jvm.Cond.instanceMethod ({ cls := "KeyCurve$Curve", name := "startMultiple", desc := "(LKeyCurve$Spot;[J)V" } : Jvm.MethodName)) ∈ kt_all := kt_mem (i := 375) (by decide +kernel) (by decide +kernel)
theorem kt_w354 : (Jvm.Cond.selects "KeyCurve$Curve" ({ cls := "KeyCurve$Curve", name := "startMultiple", desc := "(LKeyCurve$Spot;[J)V" } : Jvm.MethodName) ({ cls := "KeyCurve$Curve", name := "startMultiple", desc := "(LKeyCurve$Spot;[J)V" } : Jvm.MethodName)) ∈ kt_all := kt_mem (i := 376) (by decide +kernel) (by decide +kernel)
theorem kt_w355 : (Jvm.Cond.code ({ cls := "KeyCurve$Curve", name := "startMultiple", desc := "(LKeyCurve$Spot;[J)V" } : Jvm.MethodName) prog_2_method_7_code (4 : Nat) (Option.none : Option Jvm.ClassFile.FieldType)) ∈ kt_all := kt_mem (i := 377) (by decide +kernel) (by decide +kernel)
theorem kt_w356 : (Jvm.Cond.methodLink "KeyCurve$Curve" (114 : Nat) ({ cls := "KeyCurve$Words", name := "hasBit", desc := "([JI)Z" } : Jvm.MethodName)) ∈ kt_all := kt_mem (i := 378) (by decide +kernel) (by decide +kernel)
theorem kt_w357 : (Jvm.Cond.methodLink "KeyCurve$Curve" (118 : Nat) ({ cls := "KeyCurve$Curve", name := "join", desc := "(LKeyCurve$Spot;)V" } : Jvm.MethodName)) ∈ kt_all := kt_mem (i := 379) (by decide +kernel) (by decide +kernel)
theorem kt_w358 : (Jvm.Cond.methodLink "KeyCurveLaw" (73 : Nat) ({ cls := "KeyCurve", name := "take", desc := "(IIZ)Z" } : Jvm.MethodName)) ∈ kt_all := kt_mem (i := 380) (by decide +kernel) (by decide +kernel)
theorem kt_w359 : (Jvm.Cond.instanceMethod ({ cls := "KeyCurve", name := "take", desc := "(IIZ)Z" } : Jvm.MethodName)) ∈ kt_all := kt_mem (i := 381) (by decide +kernel) (by decide +kernel)
theorem kt_w360 : (Jvm.Cond.selects "KeyCurve" ({ cls := "KeyCurve", name := "take", desc := "(IIZ)Z" } : Jvm.MethodName) ({ cls := "KeyCurve", name := "take", desc := "(IIZ)Z" } : Jvm.MethodName)) ∈ kt_all := kt_mem (i := 382) (by decide +kernel) (by decide +kernel)
theorem kt_w361 : (Jvm.Cond.code ({ cls := "KeyCurve", name := "take", desc := "(IIZ)Z" } : Jvm.MethodName) prog_1_method_15_code (5 : Nat) (Option.some Jvm.ClassFile.FieldType.boolean)) ∈ kt_all := kt_mem (i := 383) (by decide +kernel) (by decide +kernel)
theorem kt_w362 : (Jvm.Cond.methodLink "KeyCurve" (127 : Nat) ({ cls := "KeyCurve$Words", name := "copy", desc := "([J[J)V" } : Jvm.MethodName)) ∈ kt_all := kt_mem (i := 384) (by decide +kernel) (by decide +kernel)
theorem kt_w363 : (Jvm.Cond.methodLink "KeyCurveLaw" (77 : Nat) ({ cls := "KeyCurve", name := "same", desc := "(II)Z" } : Jvm.MethodName)) ∈ kt_all := kt_mem (i := 385) (by decide +kernel) (by decide +kernel)
theorem kt_w364 : (Jvm.Cond.instanceMethod ({ cls := "KeyCurve", name := "same", desc := "(II)Z" } : Jvm.MethodName)) ∈ kt_all := kt_mem (i := 386) (by decide +kernel) (by decide +kernel)
theorem kt_w365 : (Jvm.Cond.selects "KeyCurve" ({ cls := "KeyCurve", name := "same", desc := "(II)Z" } : Jvm.MethodName) ({ cls := "KeyCurve", name := "same", desc := "(II)Z" } : Jvm.MethodName)) ∈ kt_all := kt_mem (i := 387) (by decide +kernel) (by decide +kernel)
theorem kt_w366 : (Jvm.Cond.code ({ cls := "KeyCurve", name := "same", desc := "(II)Z" } : Jvm.MethodName) prog_1_method_16_code (5 : Nat) (Option.some Jvm.ClassFile.FieldType.boolean)) ∈ kt_all := kt_mem (i := 388) (by decide +kernel) (by decide +kernel)
theorem kt_w367 : (Jvm.Cond.methodLink "KeyCurve" (132 : Nat) ({ cls := "KeyCurve$Words", name := "areEqual", desc := "([J[J)Z" } : Jvm.MethodName)) ∈ kt_all := kt_mem (i := 389) (by decide +kernel) (by decide +kernel)
theorem kt_w368 : (Jvm.Cond.classLink "KeyCurveLaw" (10 : Nat) "KeyCurveModel") ∈ kt_all := kt_mem (i := 390) (by decide +kernel) (by decide +kernel)
theorem kt_w369 : (Jvm.Cond.instantiable "KeyCurveModel" (20 : Nat)) ∈ kt_all := kt_mem (i := 391) (by decide +kernel) (by decide +kernel)
theorem kt_w370 : (Jvm.Cond.methodLink "KeyCurveLaw" (12 : Nat) ({ cls := "KeyCurveModel", name := "<init>", desc := "()V" } : Jvm.MethodName)) ∈ kt_all := kt_mem (i := 392) (by decide +kernel) (by decide +kernel)
theorem kt_w371 : (Jvm.Cond.instanceMethod ({ cls := "KeyCurveModel", name := "<init>", desc := "()V" } : Jvm.MethodName)) ∈ kt_all := kt_mem (i := 393) (by decide +kernel) (by decide +kernel)
theorem kt_w372 : (Jvm.Cond.code ({ cls := "KeyCurveModel", name := "<init>", desc := "()V" } : Jvm.MethodName) prog_7_method_1_code (1 : Nat) (Option.none : Option Jvm.ClassFile.FieldType)) ∈ kt_all := kt_mem (i := 394) (by decide +kernel) (by decide +kernel)
theorem kt_w373 : (Jvm.Cond.methodLink "KeyCurveModel" (1 : Nat) ({ cls := "java/lang/Object", name := "<init>", desc := "()V" } : Jvm.MethodName)) ∈ kt_all := kt_mem (i := 395) (by decide +kernel) (by decide +kernel)
theorem kt_w374 : (Jvm.Cond.classLink "KeyCurveModel" (7 : Nat) "[[I") ∈ kt_all := kt_mem (i := 396) (by decide +kernel) (by decide +kernel)
theorem kt_w376 : (Jvm.Cond.fieldLink "KeyCurveModel" (9 : Nat) "KeyCurveModel" "register" "[[I") ∈ kt_all := kt_mem (i := 398) (by decide +kernel) (by decide +kernel)
theorem kt_w377 : (Jvm.Cond.fieldLink "KeyCurveModel" (14 : Nat) "KeyCurveModel" "px" "[[I") ∈ kt_all := kt_mem (i := 399) (by decide +kernel) (by decide +kernel)
theorem kt_w378 : (Jvm.Cond.fieldLink "KeyCurveModel" (17 : Nat) "KeyCurveModel" "py" "[[I") ∈ kt_all := kt_mem (i := 400) (by decide +kernel) (by decide +kernel)
theorem kt_w379 : (Jvm.Cond.fieldLink "KeyCurveModel" (20 : Nat) "KeyCurveModel" "isNone" "[Z") ∈ kt_all := kt_mem (i := 401) (by decide +kernel) (by decide +kernel)
theorem kt_w380 : (Jvm.Cond.fieldLink "KeyCurveModel" (24 : Nat) "KeyCurveModel" "one" "[I") ∈ kt_all := kt_mem (i := 402) (by decide +kernel) (by decide +kernel)
theorem kt_w381 : (Jvm.Cond.fieldLink "KeyCurveModel" (28 : Nat) "KeyCurveModel" "rest" "[I") ∈ kt_all := kt_mem (i := 403) (by decide +kernel) (by decide +kernel)
theorem kt_w382 : (Jvm.Cond.fieldLink "KeyCurveModel" (31 : Nat) "KeyCurveModel" "uu" "[I") ∈ kt_all := kt_mem (i := 404) (by decide +kernel) (by decide +kernel)
theorem kt_w383 : (Jvm.Cond.fieldLink "KeyCurveModel" (34 : Nat) "KeyCurveModel" "vv" "[I") ∈ kt_all := kt_mem (i := 405) (by decide +kernel) (by decide +kernel)
theorem kt_w384 : (Jvm.Cond.fieldLink "KeyCurveModel" (37 : Nat) "KeyCurveModel" "product" "[I") ∈ kt_all := kt_mem (i := 406) (by decide +kernel) (by decide +kernel)
theorem kt_w385 : (Jvm.Cond.fieldLink "KeyCurveModel" (40 : Nat) "KeyCurveModel" "slope" "[I") ∈ kt_all := kt_mem (i := 407) (by decide +kernel) (by decide +kernel)
theorem kt_w386 : (Jvm.Cond.fieldLink "KeyCurveModel" (43 : Nat) "KeyCurveModel" "t1" "[I") ∈ kt_all := kt_mem (i := 408) (by decide +kernel) (by decide +kernel)
theorem kt_w387 : (Jvm.Cond.fieldLink "KeyCurveModel" (46 : Nat) "KeyCurveModel" "t2" "[I") ∈ kt_all := kt_mem (i := 409) (by decide +kernel) (by decide +kernel)
theorem kt_w388 : (Jvm.Cond.fieldLink "KeyCurveModel" (49 : Nat) "KeyCurveModel" "t3" "[I") ∈ kt_all := kt_mem (i := 410) (by decide +kernel) (by decide +kernel)
theorem kt_w389 : (Jvm.Cond.fieldLink "KeyCurveModel" (52 : Nat) "KeyCurveModel" "rx" "[I") ∈ kt_all := kt_mem (i := 411) (by decide +kernel) (by decide +kernel)
theorem kt_w390 : (Jvm.Cond.fieldLink "KeyCurveModel" (55 : Nat) "KeyCurveModel" "ry" "[I") ∈ kt_all := kt_mem (i := 412) (by decide +kernel) (by decide +kernel)
theorem kt_w391 : (Jvm.Cond.fieldLink "KeyCurveModel" (58 : Nat) "KeyCurveModel" "na" "[I") ∈ kt_all := kt_mem (i := 413) (by decide +kernel) (by decide +kernel)
theorem kt_w392 : (Jvm.Cond.fieldLink "KeyCurveModel" (61 : Nat) "KeyCurveModel" "nb" "[I") ∈ kt_all := kt_mem (i := 414) (by decide +kernel) (by decide +kernel)
theorem kt_w393 : (Jvm.Cond.fieldLink "KeyCurveModel" (118 : Nat) "KeyCurveModel" "isFar" "Z") ∈ kt_all := kt_mem (i := 415) (by decide +kernel) (by decide +kernel)
theorem kt_w394 : (Jvm.Cond.fieldLink "KeyCurveModel" (64 : Nat) "KeyCurveModel" "ia" "[I") ∈ kt_all := kt_mem (i := 416) (by decide +kernel) (by decide +kernel)
theorem kt_w395 : (Jvm.Cond.fieldLink "KeyCurveModel" (67 : Nat) "KeyCurveModel" "ib" "[I") ∈ kt_all := kt_mem (i := 417) (by decide +kernel) (by decide +kernel)
theorem kt_w396 : (Jvm.Cond.laysFinal "KeyCurveModel" "KeyCurveModel" "register" "[[I") ∈ kt_all := kt_mem (i := 418) (by decide +kernel) (by decide +kernel)
theorem kt_w398 : (Jvm.Cond.laysFinal "KeyCurveModel" "KeyCurveModel" "px" "[[I") ∈ kt_all := kt_mem (i := 420) (by decide +kernel) (by decide +kernel)
theorem kt_w400 : (Jvm.Cond.laysFinal "KeyCurveModel" "KeyCurveModel" "py" "[[I") ∈ kt_all := kt_mem (i := 422) (by decide +kernel) (by decide +kernel)
theorem kt_w402 : (Jvm.Cond.laysFinal "KeyCurveModel" "KeyCurveModel" "isNone" "[Z") ∈ kt_all := kt_mem (i := 424) (by decide +kernel) (by decide +kernel)
theorem kt_w404 : (Jvm.Cond.laysFinal "KeyCurveModel" "KeyCurveModel" "one" "[I") ∈ kt_all := kt_mem (i := 426) (by decide +kernel) (by decide +kernel)
theorem kt_w406 : (Jvm.Cond.laysFinal "KeyCurveModel" "KeyCurveModel" "rest" "[I") ∈ kt_all := kt_mem (i := 428) (by decide +kernel) (by decide +kernel)
theorem kt_w408 : (Jvm.Cond.laysFinal "KeyCurveModel" "KeyCurveModel" "uu" "[I") ∈ kt_all := kt_mem (i := 430) (by decide +kernel) (by decide +kernel)
theorem kt_w410 : (Jvm.Cond.laysFinal "KeyCurveModel" "KeyCurveModel" "vv" "[I") ∈ kt_all := kt_mem (i := 432) (by decide +kernel) (by decide +kernel)
theorem kt_w412 : (Jvm.Cond.laysFinal "KeyCurveModel" "KeyCurveModel" "product" "[I") ∈ kt_all := kt_mem (i := 434) (by decide +kernel) (by decide +kernel)
theorem kt_w414 : (Jvm.Cond.laysFinal "KeyCurveModel" "KeyCurveModel" "slope" "[I") ∈ kt_all := kt_mem (i := 436) (by decide +kernel) (by decide +kernel)
theorem kt_w416 : (Jvm.Cond.laysFinal "KeyCurveModel" "KeyCurveModel" "t1" "[I") ∈ kt_all := kt_mem (i := 438) (by decide +kernel) (by decide +kernel)
theorem kt_w418 : (Jvm.Cond.laysFinal "KeyCurveModel" "KeyCurveModel" "t2" "[I") ∈ kt_all := kt_mem (i := 440) (by decide +kernel) (by decide +kernel)
theorem kt_w420 : (Jvm.Cond.laysFinal "KeyCurveModel" "KeyCurveModel" "t3" "[I") ∈ kt_all := kt_mem (i := 442) (by decide +kernel) (by decide +kernel)
theorem kt_w422 : (Jvm.Cond.laysFinal "KeyCurveModel" "KeyCurveModel" "rx" "[I") ∈ kt_all := kt_mem (i := 444) (by decide +kernel) (by decide +kernel)
theorem kt_w424 : (Jvm.Cond.laysFinal "KeyCurveModel" "KeyCurveModel" "ry" "[I") ∈ kt_all := kt_mem (i := 446) (by decide +kernel) (by decide +kernel)
theorem kt_w426 : (Jvm.Cond.laysFinal "KeyCurveModel" "KeyCurveModel" "na" "[I") ∈ kt_all := kt_mem (i := 448) (by decide +kernel) (by decide +kernel)
theorem kt_w428 : (Jvm.Cond.laysFinal "KeyCurveModel" "KeyCurveModel" "nb" "[I") ∈ kt_all := kt_mem (i := 450) (by decide +kernel) (by decide +kernel)
theorem kt_w430 : (Jvm.Cond.lays "KeyCurveModel" "KeyCurveModel" "isFar" "Z") ∈ kt_all := kt_mem (i := 452) (by decide +kernel) (by decide +kernel)
theorem kt_w432 : (Jvm.Cond.laysFinal "KeyCurveModel" "KeyCurveModel" "ia" "[I") ∈ kt_all := kt_mem (i := 454) (by decide +kernel) (by decide +kernel)
theorem kt_w434 : (Jvm.Cond.laysFinal "KeyCurveModel" "KeyCurveModel" "ib" "[I") ∈ kt_all := kt_mem (i := 456) (by decide +kernel) (by decide +kernel)
theorem kt_w437 : (Jvm.Cond.arrayClass Jvm.ClassFile.FieldType.int) ∈ kt_all := kt_mem (i := 459) (by decide +kernel) (by decide +kernel)
theorem kt_w438 : (Jvm.Cond.arrayClass Jvm.ClassFile.FieldType.boolean) ∈ kt_all := kt_mem (i := 460) (by decide +kernel) (by decide +kernel)
theorem kt_w439 : (Jvm.Cond.methodLink "KeyCurveLaw" (17 : Nat) ({ cls := "KeyCurveModel", name := "set", desc := "(III)I" } : Jvm.MethodName)) ∈ kt_all := kt_mem (i := 461) (by decide +kernel) (by decide +kernel)
theorem kt_w440 : (Jvm.Cond.instanceMethod ({ cls := "KeyCurveModel", name := "set", desc := "(III)I" } : Jvm.MethodName)) ∈ kt_all := kt_mem (i := 462) (by decide +kernel) (by decide +kernel)
theorem kt_w441 : (Jvm.Cond.selects "KeyCurveModel" ({ cls := "KeyCurveModel", name := "set", desc := "(III)I" } : Jvm.MethodName) ({ cls := "KeyCurveModel", name := "set", desc := "(III)I" } : Jvm.MethodName)) ∈ kt_all := kt_mem (i := 463) (by decide +kernel) (by decide +kernel)
theorem kt_w442 : (Jvm.Cond.code ({ cls := "KeyCurveModel", name := "set", desc := "(III)I" } : Jvm.MethodName) prog_7_method_20_code (5 : Nat) (Option.some Jvm.ClassFile.FieldType.int)) ∈ kt_all := kt_mem (i := 464) (by decide +kernel) (by decide +kernel)
theorem kt_w443 : (Jvm.Cond.methodLink "KeyCurveLaw" (22 : Nat) ({ cls := "KeyCurveModel", name := "get", desc := "(II)I" } : Jvm.MethodName)) ∈ kt_all := kt_mem (i := 465) (by decide +kernel) (by decide +kernel)
theorem kt_w444 : (Jvm.Cond.instanceMethod ({ cls := "KeyCurveModel", name := "get", desc := "(II)I" } : Jvm.MethodName)) ∈ kt_all := kt_mem (i := 466) (by decide +kernel) (by decide +kernel)
theorem kt_w445 : (Jvm.Cond.selects "KeyCurveModel" ({ cls := "KeyCurveModel", name := "get", desc := "(II)I" } : Jvm.MethodName) ({ cls := "KeyCurveModel", name := "get", desc := "(II)I" } : Jvm.MethodName)) ∈ kt_all := kt_mem (i := 467) (by decide +kernel) (by decide +kernel)
theorem kt_w446 : (Jvm.Cond.code ({ cls := "KeyCurveModel", name := "get", desc := "(II)I" } : Jvm.MethodName) prog_7_method_21_code (3 : Nat) (Option.some Jvm.ClassFile.FieldType.int)) ∈ kt_all := kt_mem (i := 468) (by decide +kernel) (by decide +kernel)
theorem kt_w447 : (Jvm.Cond.methodLink "KeyCurveLaw" (27 : Nat) ({ cls := "KeyCurveModel", name := "add", desc := "(IIIZ)V" } : Jvm.MethodName)) ∈ kt_all := kt_mem (i := 469) (by decide +kernel) (by decide +kernel)
theorem kt_w448 : (Jvm.Cond.instanceMethod ({ cls := "KeyCurveModel", name := "add", desc := "(IIIZ)V" } : Jvm.MethodName)) ∈ kt_all := kt_mem (i := 470) (by decide +kernel) (by decide +kernel)
theorem kt_w449 : (Jvm.Cond.selects "KeyCurveModel" ({ cls := "KeyCurveModel", name := "add", desc := "(IIIZ)V" } : Jvm.MethodName) ({ cls := "KeyCurveModel", name := "add", desc := "(IIIZ)V" } : Jvm.MethodName)) ∈ kt_all := kt_mem (i := 471) (by decide +kernel) (by decide +kernel)
theorem kt_w450 : (Jvm.Cond.code ({ cls := "KeyCurveModel", name := "add", desc := "(IIIZ)V" } : Jvm.MethodName) prog_7_method_22_code (6 : Nat) (Option.none : Option Jvm.ClassFile.FieldType)) ∈ kt_all := kt_mem (i := 472) (by decide +kernel) (by decide +kernel)
theorem kt_w451 : (Jvm.Cond.fieldLink "KeyCurveModel" (115 : Nat) "KeyCurveModel" "N" "[I") ∈ kt_all := kt_mem (i := 473) (by decide +kernel) (by decide +kernel)
theorem kt_w453 : (Jvm.Cond.fieldLink "KeyCurveModel" (90 : Nat) "KeyCurveModel" "P" "[I") ∈ kt_all := kt_mem (i := 475) (by decide +kernel) (by decide +kernel)
theorem kt_w455 : (Jvm.Cond.methodLink "KeyCurveModel" (138 : Nat) ({ cls := "KeyCurveModel", name := "below", desc := "([IIZ)V" } : Jvm.MethodName)) ∈ kt_all := kt_mem (i := 477) (by decide +kernel) (by decide +kernel)
theorem kt_w457 : (Jvm.Cond.instanceMethod ({ cls := "KeyCurveModel", name := "below", desc := "([IIZ)V" } : Jvm.MethodName)) ∈ kt_all := kt_mem (i := 479) (by decide +kernel) (by decide +kernel)
theorem kt_w458 : (Jvm.Cond.code ({ cls := "KeyCurveModel", name := "below", desc := "([IIZ)V" } : Jvm.MethodName) prog_7_method_18_code (5 : Nat) (Option.none : Option Jvm.ClassFile.FieldType)) ∈ kt_all := kt_mem (i := 480) (by decide +kernel) (by decide +kernel)
theorem kt_w459 : (Jvm.Cond.methodLink "KeyCurveModel" (104 : Nat) ({ cls := "KeyCurveModel", name := "copy", desc := "([I[I)V" } : Jvm.MethodName)) ∈ kt_all := kt_mem (i := 481) (by decide +kernel) (by decide +kernel)
theorem kt_w460 : (Jvm.Cond.static ({ cls := "KeyCurveModel", name := "copy", desc := "([I[I)V" } : Jvm.MethodName)) ∈ kt_all := kt_mem (i := 482) (by decide +kernel) (by decide +kernel)
theorem kt_w461 : (Jvm.Cond.code ({ cls := "KeyCurveModel", name := "copy", desc := "([I[I)V" } : Jvm.MethodName) prog_7_method_7_code (2 : Nat) (Option.none : Option Jvm.ClassFile.FieldType)) ∈ kt_all := kt_mem (i := 483) (by decide +kernel) (by decide +kernel)
theorem kt_w462 : (Jvm.Cond.methodLink "KeyCurveModel" (78 : Nat) ({ cls := "java/lang/System", name := "arraycopy", desc := "(Ljava/lang/Object;ILjava/lang/Object;II)V" } : Jvm.MethodName)) ∈ kt_all := kt_mem (i := 484) (by decide +kernel) (by decide +kernel)
theorem kt_w463 : (Jvm.Cond.methodLink "KeyCurveModel" (93 : Nat) ({ cls := "KeyCurveModel", name := "compare", desc := "([I[I)I" } : Jvm.MethodName)) ∈ kt_all := kt_mem (i := 485) (by decide +kernel) (by decide +kernel)
theorem kt_w464 : (Jvm.Cond.static ({ cls := "KeyCurveModel", name := "compare", desc := "([I[I)I" } : Jvm.MethodName)) ∈ kt_all := kt_mem (i := 486) (by decide +kernel) (by decide +kernel)
theorem kt_w465 : (Jvm.Cond.code ({ cls := "KeyCurveModel", name := "compare", desc := "([I[I)I" } : Jvm.MethodName) prog_7_method_3_code (3 : Nat) (Option.some Jvm.ClassFile.FieldType.int)) ∈ kt_all := kt_mem (i := 487) (by decide +kernel) (by decide +kernel)
theorem kt_w466 : (Jvm.Cond.methodLink "KeyCurveModel" (70 : Nat) ({ cls := "java/lang/Integer", name := "compareUnsigned", desc := "(II)I" } : Jvm.MethodName)) ∈ kt_all := kt_mem (i := 488) (by decide +kernel) (by decide +kernel)
theorem kt_w467 : (Jvm.Cond.static ({ cls := "java/lang/Integer", name := "compareUnsigned", desc := "(II)I" } : Jvm.MethodName)) ∈ kt_all := kt_mem (i := 489) (by decide +kernel) (by decide +kernel)
theorem kt_w468 : (Jvm.Cond.code ({ cls := "java/lang/Integer", name := "compareUnsigned", desc := "(II)I" } : Jvm.MethodName) prog_9_method_41_code (2 : Nat) (Option.some Jvm.ClassFile.FieldType.int)) ∈ kt_all := kt_mem (i := 490) (by decide +kernel) (by decide +kernel)
theorem kt_w469 : (Jvm.Cond.constant "java/lang/Integer" (127 : Nat) (-2147483648 : Int32)) ∈ kt_all := kt_mem (i := 491) (by decide +kernel) (by decide +kernel)
theorem kt_w470 : (Jvm.Cond.methodLink "java/lang/Integer" (259 : Nat) ({ cls := "java/lang/Integer", name := "compare", desc := "(II)I" } : Jvm.MethodName)) ∈ kt_all := kt_mem (i := 492) (by decide +kernel) (by decide +kernel)
theorem kt_w471 : (Jvm.Cond.static ({ cls := "java/lang/Integer", name := "compare", desc := "(II)I" } : Jvm.MethodName)) ∈ kt_all := kt_mem (i := 493) (by decide +kernel) (by decide +kernel)
theorem kt_w472 : (Jvm.Cond.code ({ cls := "java/lang/Integer", name := "compare", desc := "(II)I" } : Jvm.MethodName) prog_9_method_40_code (2 : Nat) (Option.some Jvm.ClassFile.FieldType.int)) ∈ kt_all := kt_mem (i := 494) (by decide +kernel) (by decide +kernel)
theorem kt_w473 : (Jvm.Cond.methodLink "KeyCurveModel" (97 : Nat) ({ cls := "KeyCurveModel", name := "sub", desc := "([I[I[I)I" } : Jvm.MethodName)) ∈ kt_all := kt_mem (i := 495) (by decide +kernel) (by decide +kernel)
theorem kt_w474 : (Jvm.Cond.static ({ cls := "KeyCurveModel", name := "sub", desc := "([I[I[I)I" } : Jvm.MethodName)) ∈ kt_all := kt_mem (i := 496) (by decide +kernel) (by decide +kernel)
theorem kt_w475 : (Jvm.Cond.code ({ cls := "KeyCurveModel", name := "sub", desc := "([I[I[I)I" } : Jvm.MethodName) prog_7_method_6_code (6 : Nat) (Option.some Jvm.ClassFile.FieldType.int)) ∈ kt_all := kt_mem (i := 497) (by decide +kernel) (by decide +kernel)
theorem kt_w476 : (Jvm.Cond.constantLong "KeyCurveModel" (76 : Nat) (4294967295 : Int64)) ∈ kt_all := kt_mem (i := 498) (by decide +kernel) (by decide +kernel)
theorem kt_w477 : (Jvm.Cond.methodLink "KeyCurveModel" (101 : Nat) ({ cls := "KeyCurveModel", name := "add", desc := "([I[I[I)I" } : Jvm.MethodName)) ∈ kt_all := kt_mem (i := 499) (by decide +kernel) (by decide +kernel)
theorem kt_w478 : (Jvm.Cond.static ({ cls := "KeyCurveModel", name := "add", desc := "([I[I[I)I" } : Jvm.MethodName)) ∈ kt_all := kt_mem (i := 500) (by decide +kernel) (by decide +kernel)
theorem kt_w479 : (Jvm.Cond.code ({ cls := "KeyCurveModel", name := "add", desc := "([I[I[I)I" } : Jvm.MethodName) prog_7_method_5_code (6 : Nat) (Option.some Jvm.ClassFile.FieldType.int)) ∈ kt_all := kt_mem (i := 501) (by decide +kernel) (by decide +kernel)
theorem kt_w480 : (Jvm.Cond.methodLink "KeyCurveLaw" (31 : Nat) ({ cls := "KeyCurveModel", name := "subtract", desc := "(IIIZ)V" } : Jvm.MethodName)) ∈ kt_all := kt_mem (i := 502) (by decide +kernel) (by decide +kernel)
theorem kt_w481 : (Jvm.Cond.instanceMethod ({ cls := "KeyCurveModel", name := "subtract", desc := "(IIIZ)V" } : Jvm.MethodName)) ∈ kt_all := kt_mem (i := 503) (by decide +kernel) (by decide +kernel)
theorem kt_w482 : (Jvm.Cond.selects "KeyCurveModel" ({ cls := "KeyCurveModel", name := "subtract", desc := "(IIIZ)V" } : Jvm.MethodName) ({ cls := "KeyCurveModel", name := "subtract", desc := "(IIIZ)V" } : Jvm.MethodName)) ∈ kt_all := kt_mem (i := 504) (by decide +kernel) (by decide +kernel)
theorem kt_w483 : (Jvm.Cond.code ({ cls := "KeyCurveModel", name := "subtract", desc := "(IIIZ)V" } : Jvm.MethodName) prog_7_method_23_code (5 : Nat) (Option.none : Option Jvm.ClassFile.FieldType)) ∈ kt_all := kt_mem (i := 505) (by decide +kernel) (by decide +kernel)
theorem kt_w484 : (Jvm.Cond.methodLink "KeyCurveLaw" (35 : Nat) ({ cls := "KeyCurveModel", name := "multiply", desc := "(IIIZ)V" } : Jvm.MethodName)) ∈ kt_all := kt_mem (i := 506) (by decide +kernel) (by decide +kernel)
theorem kt_w485 : (Jvm.Cond.instanceMethod ({ cls := "KeyCurveModel", name := "multiply", desc := "(IIIZ)V" } : Jvm.MethodName)) ∈ kt_all := kt_mem (i := 507) (by decide +kernel) (by decide +kernel)
theorem kt_w486 : (Jvm.Cond.selects "KeyCurveModel" ({ cls := "KeyCurveModel", name := "multiply", desc := "(IIIZ)V" } : Jvm.MethodName) ({ cls := "KeyCurveModel", name := "multiply", desc := "(IIIZ)V" } : Jvm.MethodName)) ∈ kt_all := kt_mem (i := 508) (by decide +kernel) (by decide +kernel)
theorem kt_w487 : (Jvm.Cond.code ({ cls := "KeyCurveModel", name := "multiply", desc := "(IIIZ)V" } : Jvm.MethodName) prog_7_method_24_code (5 : Nat) (Option.none : Option Jvm.ClassFile.FieldType)) ∈ kt_all := kt_mem (i := 509) (by decide +kernel) (by decide +kernel)
theorem kt_w488 : (Jvm.Cond.methodLink "KeyCurveModel" (142 : Nat) ({ cls := "KeyCurveModel", name := "timesN", desc := "([I[I[I)V" } : Jvm.MethodName)) ∈ kt_all := kt_mem (i := 510) (by decide +kernel) (by decide +kernel)
theorem kt_w490 : (Jvm.Cond.instanceMethod ({ cls := "KeyCurveModel", name := "timesN", desc := "([I[I[I)V" } : Jvm.MethodName)) ∈ kt_all := kt_mem (i := 512) (by decide +kernel) (by decide +kernel)
theorem kt_w491 : (Jvm.Cond.code ({ cls := "KeyCurveModel", name := "timesN", desc := "([I[I[I)V" } : Jvm.MethodName) prog_7_method_16_code (6 : Nat) (Option.none : Option Jvm.ClassFile.FieldType)) ∈ kt_all := kt_mem (i := 513) (by decide +kernel) (by decide +kernel)
theorem kt_w492 : (Jvm.Cond.methodLink "KeyCurveModel" (84 : Nat) ({ cls := "KeyCurveModel", name := "multiply", desc := "([I[I)V" } : Jvm.MethodName)) ∈ kt_all := kt_mem (i := 514) (by decide +kernel) (by decide +kernel)
theorem kt_w494 : (Jvm.Cond.instanceMethod ({ cls := "KeyCurveModel", name := "multiply", desc := "([I[I)V" } : Jvm.MethodName)) ∈ kt_all := kt_mem (i := 516) (by decide +kernel) (by decide +kernel)
theorem kt_w495 : (Jvm.Cond.code ({ cls := "KeyCurveModel", name := "multiply", desc := "([I[I)V" } : Jvm.MethodName) prog_7_method_9_code (7 : Nat) (Option.none : Option Jvm.ClassFile.FieldType)) ∈ kt_all := kt_mem (i := 517) (by decide +kernel) (by decide +kernel)
theorem kt_w496 : (Jvm.Cond.methodLink "KeyCurveModel" (125 : Nat) ({ cls := "KeyCurveModel", name := "times", desc := "([I[I[I)V" } : Jvm.MethodName)) ∈ kt_all := kt_mem (i := 518) (by decide +kernel) (by decide +kernel)
theorem kt_w498 : (Jvm.Cond.instanceMethod ({ cls := "KeyCurveModel", name := "times", desc := "([I[I[I)V" } : Jvm.MethodName)) ∈ kt_all := kt_mem (i := 520) (by decide +kernel) (by decide +kernel)
theorem kt_w499 : (Jvm.Cond.code ({ cls := "KeyCurveModel", name := "times", desc := "([I[I[I)V" } : Jvm.MethodName) prog_7_method_10_code (9 : Nat) (Option.none : Option Jvm.ClassFile.FieldType)) ∈ kt_all := kt_mem (i := 521) (by decide +kernel) (by decide +kernel)
theorem kt_w500 : (Jvm.Cond.constantLong "KeyCurveModel" (88 : Nat) (977 : Int64)) ∈ kt_all := kt_mem (i := 522) (by decide +kernel) (by decide +kernel)
theorem kt_w501 : (Jvm.Cond.methodLink "KeyCurveLaw" (40 : Nat) ({ cls := "KeyCurveModel", name := "invert", desc := "(IIZ)Z" } : Jvm.MethodName)) ∈ kt_all := kt_mem (i := 523) (by decide +kernel) (by decide +kernel)
theorem kt_w502 : (Jvm.Cond.instanceMethod ({ cls := "KeyCurveModel", name := "invert", desc := "(IIZ)Z" } : Jvm.MethodName)) ∈ kt_all := kt_mem (i := 524) (by decide +kernel) (by decide +kernel)
theorem kt_w503 : (Jvm.Cond.selects "KeyCurveModel" ({ cls := "KeyCurveModel", name := "invert", desc := "(IIZ)Z" } : Jvm.MethodName) ({ cls := "KeyCurveModel", name := "invert", desc := "(IIZ)Z" } : Jvm.MethodName)) ∈ kt_all := kt_mem (i := 525) (by decide +kernel) (by decide +kernel)
theorem kt_w504 : (Jvm.Cond.code ({ cls := "KeyCurveModel", name := "invert", desc := "(IIZ)Z" } : Jvm.MethodName) prog_7_method_25_code (4 : Nat) (Option.some Jvm.ClassFile.FieldType.boolean)) ∈ kt_all := kt_mem (i := 526) (by decide +kernel) (by decide +kernel)
theorem kt_w505 : (Jvm.Cond.methodLink "KeyCurveModel" (122 : Nat) ({ cls := "KeyCurveModel", name := "isZero", desc := "([I)Z" } : Jvm.MethodName)) ∈ kt_all := kt_mem (i := 527) (by decide +kernel) (by decide +kernel)
theorem kt_w506 : (Jvm.Cond.static ({ cls := "KeyCurveModel", name := "isZero", desc := "([I)Z" } : Jvm.MethodName)) ∈ kt_all := kt_mem (i := 528) (by decide +kernel) (by decide +kernel)
theorem kt_w507 : (Jvm.Cond.code ({ cls := "KeyCurveModel", name := "isZero", desc := "([I)Z" } : Jvm.MethodName) prog_7_method_4_code (2 : Nat) (Option.some Jvm.ClassFile.FieldType.boolean)) ∈ kt_all := kt_mem (i := 529) (by decide +kernel) (by decide +kernel)
theorem kt_w508 : (Jvm.Cond.methodLink "KeyCurveModel" (135 : Nat) ({ cls := "KeyCurveModel", name := "inverse", desc := "([I[I[I)V" } : Jvm.MethodName)) ∈ kt_all := kt_mem (i := 530) (by decide +kernel) (by decide +kernel)
theorem kt_w510 : (Jvm.Cond.instanceMethod ({ cls := "KeyCurveModel", name := "inverse", desc := "([I[I[I)V" } : Jvm.MethodName)) ∈ kt_all := kt_mem (i := 532) (by decide +kernel) (by decide +kernel)
theorem kt_w511 : (Jvm.Cond.code ({ cls := "KeyCurveModel", name := "inverse", desc := "([I[I[I)V" } : Jvm.MethodName) prog_7_method_15_code (5 : Nat) (Option.none : Option Jvm.ClassFile.FieldType)) ∈ kt_all := kt_mem (i := 533) (by decide +kernel) (by decide +kernel)
theorem kt_w512 : (Jvm.Cond.methodLink "KeyCurveModel" (107 : Nat) ({ cls := "KeyCurveModel", name := "isOne", desc := "([I)Z" } : Jvm.MethodName)) ∈ kt_all := kt_mem (i := 534) (by decide +kernel) (by decide +kernel)
theorem kt_w513 : (Jvm.Cond.static ({ cls := "KeyCurveModel", name := "isOne", desc := "([I)Z" } : Jvm.MethodName)) ∈ kt_all := kt_mem (i := 535) (by decide +kernel) (by decide +kernel)
theorem kt_w514 : (Jvm.Cond.code ({ cls := "KeyCurveModel", name := "isOne", desc := "([I)Z" } : Jvm.MethodName) prog_7_method_14_code (2 : Nat) (Option.some Jvm.ClassFile.FieldType.boolean)) ∈ kt_all := kt_mem (i := 536) (by decide +kernel) (by decide +kernel)
theorem kt_w515 : (Jvm.Cond.methodLink "KeyCurveModel" (111 : Nat) ({ cls := "KeyCurveModel", name := "half", desc := "([II)V" } : Jvm.MethodName)) ∈ kt_all := kt_mem (i := 537) (by decide +kernel) (by decide +kernel)
theorem kt_w516 : (Jvm.Cond.static ({ cls := "KeyCurveModel", name := "half", desc := "([II)V" } : Jvm.MethodName)) ∈ kt_all := kt_mem (i := 538) (by decide +kernel) (by decide +kernel)
theorem kt_w517 : (Jvm.Cond.code ({ cls := "KeyCurveModel", name := "half", desc := "([II)V" } : Jvm.MethodName) prog_7_method_13_code (3 : Nat) (Option.none : Option Jvm.ClassFile.FieldType)) ∈ kt_all := kt_mem (i := 539) (by decide +kernel) (by decide +kernel)
theorem kt_w518 : (Jvm.Cond.methodLink "KeyCurveLaw" (45 : Nat) ({ cls := "KeyCurveModel", name := "root", desc := "(II)Z" } : Jvm.MethodName)) ∈ kt_all := kt_mem (i := 540) (by decide +kernel) (by decide +kernel)
theorem kt_w519 : (Jvm.Cond.instanceMethod ({ cls := "KeyCurveModel", name := "root", desc := "(II)Z" } : Jvm.MethodName)) ∈ kt_all := kt_mem (i := 541) (by decide +kernel) (by decide +kernel)
theorem kt_w520 : (Jvm.Cond.selects "KeyCurveModel" ({ cls := "KeyCurveModel", name := "root", desc := "(II)Z" } : Jvm.MethodName) ({ cls := "KeyCurveModel", name := "root", desc := "(II)Z" } : Jvm.MethodName)) ∈ kt_all := kt_mem (i := 542) (by decide +kernel) (by decide +kernel)
theorem kt_w521 : (Jvm.Cond.code ({ cls := "KeyCurveModel", name := "root", desc := "(II)Z" } : Jvm.MethodName) prog_7_method_27_code (3 : Nat) (Option.some Jvm.ClassFile.FieldType.boolean)) ∈ kt_all := kt_mem (i := 543) (by decide +kernel) (by decide +kernel)
theorem kt_w522 : (Jvm.Cond.methodLink "KeyCurveModel" (152 : Nat) ({ cls := "KeyCurveModel", name := "isRoot", desc := "([I[I)Z" } : Jvm.MethodName)) ∈ kt_all := kt_mem (i := 544) (by decide +kernel) (by decide +kernel)
theorem kt_w524 : (Jvm.Cond.instanceMethod ({ cls := "KeyCurveModel", name := "isRoot", desc := "([I[I)Z" } : Jvm.MethodName)) ∈ kt_all := kt_mem (i := 546) (by decide +kernel) (by decide +kernel)
theorem kt_w525 : (Jvm.Cond.code ({ cls := "KeyCurveModel", name := "isRoot", desc := "([I[I)Z" } : Jvm.MethodName) prog_7_method_26_code (4 : Nat) (Option.some Jvm.ClassFile.FieldType.boolean)) ∈ kt_all := kt_mem (i := 547) (by decide +kernel) (by decide +kernel)
theorem kt_w526 : (Jvm.Cond.methodLink "KeyCurveModel" (145 : Nat) ({ cls := "KeyCurveModel", name := "bit", desc := "([II)I" } : Jvm.MethodName)) ∈ kt_all := kt_mem (i := 548) (by decide +kernel) (by decide +kernel)
theorem kt_w527 : (Jvm.Cond.static ({ cls := "KeyCurveModel", name := "bit", desc := "([II)I" } : Jvm.MethodName)) ∈ kt_all := kt_mem (i := 549) (by decide +kernel) (by decide +kernel)
theorem kt_w528 : (Jvm.Cond.code ({ cls := "KeyCurveModel", name := "bit", desc := "([II)I" } : Jvm.MethodName) prog_7_method_8_code (2 : Nat) (Option.some Jvm.ClassFile.FieldType.int)) ∈ kt_all := kt_mem (i := 550) (by decide +kernel) (by decide +kernel)
theorem kt_w529 : (Jvm.Cond.methodLink "KeyCurveModel" (149 : Nat) ({ cls := "KeyCurveModel", name := "isEven", desc := "([I)Z" } : Jvm.MethodName)) ∈ kt_all := kt_mem (i := 551) (by decide +kernel) (by decide +kernel)
theorem kt_w530 : (Jvm.Cond.static ({ cls := "KeyCurveModel", name := "isEven", desc := "([I)Z" } : Jvm.MethodName)) ∈ kt_all := kt_mem (i := 552) (by decide +kernel) (by decide +kernel)
theorem kt_w531 : (Jvm.Cond.code ({ cls := "KeyCurveModel", name := "isEven", desc := "([I)Z" } : Jvm.MethodName) prog_7_method_19_code (1 : Nat) (Option.some Jvm.ClassFile.FieldType.boolean)) ∈ kt_all := kt_mem (i := 553) (by decide +kernel) (by decide +kernel)
theorem kt_w532 : (Jvm.Cond.methodLink "KeyCurveLaw" (50 : Nat) ({ cls := "KeyCurveModel", name := "base", desc := "(I)V" } : Jvm.MethodName)) ∈ kt_all := kt_mem (i := 554) (by decide +kernel) (by decide +kernel)
theorem kt_w533 : (Jvm.Cond.instanceMethod ({ cls := "KeyCurveModel", name := "base", desc := "(I)V" } : Jvm.MethodName)) ∈ kt_all := kt_mem (i := 555) (by decide +kernel) (by decide +kernel)
theorem kt_w534 : (Jvm.Cond.selects "KeyCurveModel" ({ cls := "KeyCurveModel", name := "base", desc := "(I)V" } : Jvm.MethodName) ({ cls := "KeyCurveModel", name := "base", desc := "(I)V" } : Jvm.MethodName)) ∈ kt_all := kt_mem (i := 556) (by decide +kernel) (by decide +kernel)
theorem kt_w535 : (Jvm.Cond.code ({ cls := "KeyCurveModel", name := "base", desc := "(I)V" } : Jvm.MethodName) prog_7_method_29_code (2 : Nat) (Option.none : Option Jvm.ClassFile.FieldType)) ∈ kt_all := kt_mem (i := 557) (by decide +kernel) (by decide +kernel)
theorem kt_w536 : (Jvm.Cond.fieldLink "KeyCurveModel" (156 : Nat) "KeyCurveModel" "GX" "[I") ∈ kt_all := kt_mem (i := 558) (by decide +kernel) (by decide +kernel)
theorem kt_w538 : (Jvm.Cond.fieldLink "KeyCurveModel" (159 : Nat) "KeyCurveModel" "GY" "[I") ∈ kt_all := kt_mem (i := 560) (by decide +kernel) (by decide +kernel)
theorem kt_w540 : (Jvm.Cond.methodLink "KeyCurveModel" (162 : Nat) ({ cls := "KeyCurveModel", name := "keep", desc := "(I[I[I)V" } : Jvm.MethodName)) ∈ kt_all := kt_mem (i := 562) (by decide +kernel) (by decide +kernel)
theorem kt_w542 : (Jvm.Cond.instanceMethod ({ cls := "KeyCurveModel", name := "keep", desc := "(I[I[I)V" } : Jvm.MethodName)) ∈ kt_all := kt_mem (i := 564) (by decide +kernel) (by decide +kernel)
theorem kt_w543 : (Jvm.Cond.code ({ cls := "KeyCurveModel", name := "keep", desc := "(I[I[I)V" } : Jvm.MethodName) prog_7_method_28_code (4 : Nat) (Option.none : Option Jvm.ClassFile.FieldType)) ∈ kt_all := kt_mem (i := 565) (by decide +kernel) (by decide +kernel)
theorem kt_w544 : (Jvm.Cond.methodLink "KeyCurveLaw" (54 : Nat) ({ cls := "KeyCurveModel", name := "none", desc := "(I)V" } : Jvm.MethodName)) ∈ kt_all := kt_mem (i := 566) (by decide +kernel) (by decide +kernel)
theorem kt_w545 : (Jvm.Cond.instanceMethod ({ cls := "KeyCurveModel", name := "none", desc := "(I)V" } : Jvm.MethodName)) ∈ kt_all := kt_mem (i := 567) (by decide +kernel) (by decide +kernel)
theorem kt_w546 : (Jvm.Cond.selects "KeyCurveModel" ({ cls := "KeyCurveModel", name := "none", desc := "(I)V" } : Jvm.MethodName) ({ cls := "KeyCurveModel", name := "none", desc := "(I)V" } : Jvm.MethodName)) ∈ kt_all := kt_mem (i := 568) (by decide +kernel) (by decide +kernel)
theorem kt_w547 : (Jvm.Cond.code ({ cls := "KeyCurveModel", name := "none", desc := "(I)V" } : Jvm.MethodName) prog_7_method_30_code (2 : Nat) (Option.none : Option Jvm.ClassFile.FieldType)) ∈ kt_all := kt_mem (i := 569) (by decide +kernel) (by decide +kernel)
theorem kt_w548 : (Jvm.Cond.methodLink "KeyCurveLaw" (59 : Nat) ({ cls := "KeyCurveModel", name := "point", desc := "(III)Z" } : Jvm.MethodName)) ∈ kt_all := kt_mem (i := 570) (by decide +kernel) (by decide +kernel)
theorem kt_w549 : (Jvm.Cond.instanceMethod ({ cls := "KeyCurveModel", name := "point", desc := "(III)Z" } : Jvm.MethodName)) ∈ kt_all := kt_mem (i := 571) (by decide +kernel) (by decide +kernel)
theorem kt_w550 : (Jvm.Cond.selects "KeyCurveModel" ({ cls := "KeyCurveModel", name := "point", desc := "(III)Z" } : Jvm.MethodName) ({ cls := "KeyCurveModel", name := "point", desc := "(III)Z" } : Jvm.MethodName)) ∈ kt_all := kt_mem (i := 572) (by decide +kernel) (by decide +kernel)
theorem kt_w551 : (Jvm.Cond.code ({ cls := "KeyCurveModel", name := "point", desc := "(III)Z" } : Jvm.MethodName) prog_7_method_32_code (6 : Nat) (Option.some Jvm.ClassFile.FieldType.boolean)) ∈ kt_all := kt_mem (i := 573) (by decide +kernel) (by decide +kernel)
theorem kt_w552 : (Jvm.Cond.methodLink "KeyCurveModel" (166 : Nat) ({ cls := "KeyCurveModel", name := "square", desc := "([I)V" } : Jvm.MethodName)) ∈ kt_all := kt_mem (i := 574) (by decide +kernel) (by decide +kernel)
theorem kt_w554 : (Jvm.Cond.instanceMethod ({ cls := "KeyCurveModel", name := "square", desc := "([I)V" } : Jvm.MethodName)) ∈ kt_all := kt_mem (i := 576) (by decide +kernel) (by decide +kernel)
theorem kt_w555 : (Jvm.Cond.code ({ cls := "KeyCurveModel", name := "square", desc := "([I)V" } : Jvm.MethodName) prog_7_method_31_code (3 : Nat) (Option.none : Option Jvm.ClassFile.FieldType)) ∈ kt_all := kt_mem (i := 577) (by decide +kernel) (by decide +kernel)
theorem kt_w556 : (Jvm.Cond.methodLink "KeyCurveModel" (129 : Nat) ({ cls := "KeyCurveModel", name := "plus", desc := "([I[I[I)V" } : Jvm.MethodName)) ∈ kt_all := kt_mem (i := 578) (by decide +kernel) (by decide +kernel)
theorem kt_w557 : (Jvm.Cond.static ({ cls := "KeyCurveModel", name := "plus", desc := "([I[I[I)V" } : Jvm.MethodName)) ∈ kt_all := kt_mem (i := 579) (by decide +kernel) (by decide +kernel)
theorem kt_w558 : (Jvm.Cond.code ({ cls := "KeyCurveModel", name := "plus", desc := "([I[I[I)V" } : Jvm.MethodName) prog_7_method_12_code (3 : Nat) (Option.none : Option Jvm.ClassFile.FieldType)) ∈ kt_all := kt_mem (i := 580) (by decide +kernel) (by decide +kernel)
theorem kt_w559 : (Jvm.Cond.methodLink "KeyCurveLaw" (63 : Nat) ({ cls := "KeyCurveModel", name := "lift", desc := "(IIZ)Z" } : Jvm.MethodName)) ∈ kt_all := kt_mem (i := 581) (by decide +kernel) (by decide +kernel)
theorem kt_w560 : (Jvm.Cond.instanceMethod ({ cls := "KeyCurveModel", name := "lift", desc := "(IIZ)Z" } : Jvm.MethodName)) ∈ kt_all := kt_mem (i := 582) (by decide +kernel) (by decide +kernel)
theorem kt_w561 : (Jvm.Cond.selects "KeyCurveModel" ({ cls := "KeyCurveModel", name := "lift", desc := "(IIZ)Z" } : Jvm.MethodName) ({ cls := "KeyCurveModel", name := "lift", desc := "(IIZ)Z" } : Jvm.MethodName)) ∈ kt_all := kt_mem (i := 583) (by decide +kernel) (by decide +kernel)
theorem kt_w562 : (Jvm.Cond.code ({ cls := "KeyCurveModel", name := "lift", desc := "(IIZ)Z" } : Jvm.MethodName) prog_7_method_33_code (5 : Nat) (Option.some Jvm.ClassFile.FieldType.boolean)) ∈ kt_all := kt_mem (i := 584) (by decide +kernel) (by decide +kernel)
theorem kt_w563 : (Jvm.Cond.methodLink "KeyCurveLaw" (68 : Nat) ({ cls := "KeyCurveModel", name := "plus", desc := "(III)V" } : Jvm.MethodName)) ∈ kt_all := kt_mem (i := 585) (by decide +kernel) (by decide +kernel)
theorem kt_w564 : (Jvm.Cond.instanceMethod ({ cls := "KeyCurveModel", name := "plus", desc := "(III)V" } : Jvm.MethodName)) ∈ kt_all := kt_mem (i := 586) (by decide +kernel) (by decide +kernel)
theorem kt_w565 : (Jvm.Cond.selects "KeyCurveModel" ({ cls := "KeyCurveModel", name := "plus", desc := "(III)V" } : Jvm.MethodName) ({ cls := "KeyCurveModel", name := "plus", desc := "(III)V" } : Jvm.MethodName)) ∈ kt_all := kt_mem (i := 587) (by decide +kernel) (by decide +kernel)
theorem kt_w566 : (Jvm.Cond.code ({ cls := "KeyCurveModel", name := "plus", desc := "(III)V" } : Jvm.MethodName) prog_7_method_36_code (4 : Nat) (Option.none : Option Jvm.ClassFile.FieldType)) ∈ kt_all := kt_mem (i := 588) (by decide +kernel) (by decide +kernel)
theorem kt_w567 : (Jvm.Cond.methodLink "KeyCurveModel" (170 : Nat) ({ cls := "KeyCurveModel", name := "load", desc := "(I)V" } : Jvm.MethodName)) ∈ kt_all := kt_mem (i := 589) (by decide +kernel) (by decide +kernel)
theorem kt_w569 : (Jvm.Cond.instanceMethod ({ cls := "KeyCurveModel", name := "load", desc := "(I)V" } : Jvm.MethodName)) ∈ kt_all := kt_mem (i := 591) (by decide +kernel) (by decide +kernel)
theorem kt_w570 : (Jvm.Cond.code ({ cls := "KeyCurveModel", name := "load", desc := "(I)V" } : Jvm.MethodName) prog_7_method_34_code (2 : Nat) (Option.none : Option Jvm.ClassFile.FieldType)) ∈ kt_all := kt_mem (i := 592) (by decide +kernel) (by decide +kernel)
theorem kt_w571 : (Jvm.Cond.methodLink "KeyCurveModel" (174 : Nat) ({ cls := "KeyCurveModel", name := "more", desc := "([I[I)V" } : Jvm.MethodName)) ∈ kt_all := kt_mem (i := 593) (by decide +kernel) (by decide +kernel)
theorem kt_w573 : (Jvm.Cond.instanceMethod ({ cls := "KeyCurveModel", name := "more", desc := "([I[I)V" } : Jvm.MethodName)) ∈ kt_all := kt_mem (i := 595) (by decide +kernel) (by decide +kernel)
theorem kt_w574 : (Jvm.Cond.code ({ cls := "KeyCurveModel", name := "more", desc := "([I[I)V" } : Jvm.MethodName) prog_7_method_37_code (3 : Nat) (Option.none : Option Jvm.ClassFile.FieldType)) ∈ kt_all := kt_mem (i := 596) (by decide +kernel) (by decide +kernel)
theorem kt_w575 : (Jvm.Cond.methodLink "KeyCurveModel" (180 : Nat) ({ cls := "KeyCurveModel", name := "join", desc := "([I[IZ)V" } : Jvm.MethodName)) ∈ kt_all := kt_mem (i := 597) (by decide +kernel) (by decide +kernel)
theorem kt_w577 : (Jvm.Cond.instanceMethod ({ cls := "KeyCurveModel", name := "join", desc := "([I[IZ)V" } : Jvm.MethodName)) ∈ kt_all := kt_mem (i := 599) (by decide +kernel) (by decide +kernel)
theorem kt_w578 : (Jvm.Cond.code ({ cls := "KeyCurveModel", name := "join", desc := "([I[IZ)V" } : Jvm.MethodName) prog_7_method_17_code (5 : Nat) (Option.none : Option Jvm.ClassFile.FieldType)) ∈ kt_all := kt_mem (i := 600) (by decide +kernel) (by decide +kernel)
theorem kt_w579 : (Jvm.Cond.methodLink "KeyCurveModel" (132 : Nat) ({ cls := "KeyCurveModel", name := "minus", desc := "([I[I[I)V" } : Jvm.MethodName)) ∈ kt_all := kt_mem (i := 601) (by decide +kernel) (by decide +kernel)
theorem kt_w580 : (Jvm.Cond.static ({ cls := "KeyCurveModel", name := "minus", desc := "([I[I[I)V" } : Jvm.MethodName)) ∈ kt_all := kt_mem (i := 602) (by decide +kernel) (by decide +kernel)
theorem kt_w581 : (Jvm.Cond.code ({ cls := "KeyCurveModel", name := "minus", desc := "([I[I[I)V" } : Jvm.MethodName) prog_7_method_11_code (3 : Nat) (Option.none : Option Jvm.ClassFile.FieldType)) ∈ kt_all := kt_mem (i := 603) (by decide +kernel) (by decide +kernel)
theorem kt_w582 : (Jvm.Cond.methodLink "KeyCurveModel" (177 : Nat) ({ cls := "KeyCurveModel", name := "store", desc := "(I)V" } : Jvm.MethodName)) ∈ kt_all := kt_mem (i := 604) (by decide +kernel) (by decide +kernel)
theorem kt_w584 : (Jvm.Cond.instanceMethod ({ cls := "KeyCurveModel", name := "store", desc := "(I)V" } : Jvm.MethodName)) ∈ kt_all := kt_mem (i := 606) (by decide +kernel) (by decide +kernel)
theorem kt_w585 : (Jvm.Cond.code ({ cls := "KeyCurveModel", name := "store", desc := "(I)V" } : Jvm.MethodName) prog_7_method_35_code (2 : Nat) (Option.none : Option Jvm.ClassFile.FieldType)) ∈ kt_all := kt_mem (i := 607) (by decide +kernel) (by decide +kernel)
theorem kt_w586 : (Jvm.Cond.methodLink "KeyCurveLaw" (72 : Nat) ({ cls := "KeyCurveModel", name := "times", desc := "(III)V" } : Jvm.MethodName)) ∈ kt_all := kt_mem (i := 608) (by decide +kernel) (by decide +kernel)
theorem kt_w587 : (Jvm.Cond.instanceMethod ({ cls := "KeyCurveModel", name := "times", desc := "(III)V" } : Jvm.MethodName)) ∈ kt_all := kt_mem (i := 609) (by decide +kernel) (by decide +kernel)
theorem kt_w588 : (Jvm.Cond.selects "KeyCurveModel" ({ cls := "KeyCurveModel", name := "times", desc := "(III)V" } : Jvm.MethodName) ({ cls := "KeyCurveModel", name := "times", desc := "(III)V" } : Jvm.MethodName)) ∈ kt_all := kt_mem (i := 610) (by decide +kernel) (by decide +kernel)
theorem kt_w589 : (Jvm.Cond.code ({ cls := "KeyCurveModel", name := "times", desc := "(III)V" } : Jvm.MethodName) prog_7_method_38_code (5 : Nat) (Option.none : Option Jvm.ClassFile.FieldType)) ∈ kt_all := kt_mem (i := 611) (by decide +kernel) (by decide +kernel)
theorem kt_w590 : (Jvm.Cond.methodLink "KeyCurveLaw" (76 : Nat) ({ cls := "KeyCurveModel", name := "take", desc := "(IIZ)Z" } : Jvm.MethodName)) ∈ kt_all := kt_mem (i := 612) (by decide +kernel) (by decide +kernel)
theorem kt_w591 : (Jvm.Cond.instanceMethod ({ cls := "KeyCurveModel", name := "take", desc := "(IIZ)Z" } : Jvm.MethodName)) ∈ kt_all := kt_mem (i := 613) (by decide +kernel) (by decide +kernel)
theorem kt_w592 : (Jvm.Cond.selects "KeyCurveModel" ({ cls := "KeyCurveModel", name := "take", desc := "(IIZ)Z" } : Jvm.MethodName) ({ cls := "KeyCurveModel", name := "take", desc := "(IIZ)Z" } : Jvm.MethodName)) ∈ kt_all := kt_mem (i := 614) (by decide +kernel) (by decide +kernel)
theorem kt_w593 : (Jvm.Cond.code ({ cls := "KeyCurveModel", name := "take", desc := "(IIZ)Z" } : Jvm.MethodName) prog_7_method_39_code (4 : Nat) (Option.some Jvm.ClassFile.FieldType.boolean)) ∈ kt_all := kt_mem (i := 615) (by decide +kernel) (by decide +kernel)
theorem kt_w594 : (Jvm.Cond.methodLink "KeyCurveLaw" (80 : Nat) ({ cls := "KeyCurveModel", name := "same", desc := "(II)Z" } : Jvm.MethodName)) ∈ kt_all := kt_mem (i := 616) (by decide +kernel) (by decide +kernel)
theorem kt_w595 : (Jvm.Cond.instanceMethod ({ cls := "KeyCurveModel", name := "same", desc := "(II)Z" } : Jvm.MethodName)) ∈ kt_all := kt_mem (i := 617) (by decide +kernel) (by decide +kernel)
theorem kt_w596 : (Jvm.Cond.selects "KeyCurveModel" ({ cls := "KeyCurveModel", name := "same", desc := "(II)Z" } : Jvm.MethodName) ({ cls := "KeyCurveModel", name := "same", desc := "(II)Z" } : Jvm.MethodName)) ∈ kt_all := kt_mem (i := 618) (by decide +kernel) (by decide +kernel)
theorem kt_w597 : (Jvm.Cond.code ({ cls := "KeyCurveModel", name := "same", desc := "(II)Z" } : Jvm.MethodName) prog_7_method_40_code (3 : Nat) (Option.some Jvm.ClassFile.FieldType.boolean)) ∈ kt_all := kt_mem (i := 619) (by decide +kernel) (by decide +kernel)
