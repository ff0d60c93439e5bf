section
-- 07.words
/-! The words of the tables that are good, and each one's place among them -/
def wAll : List Cond := lw_tbl.filter goodWord
theorem wAll_in {w : Cond} (h : w ∈ lw_tbl) (g : goodWord w = true) : w ∈ wAll := List.mem_filter.mpr ⟨h, g⟩
theorem wAll_good {w : Cond} (h : w ∈ wAll) : goodWord w = true := (List.mem_filter.mp h).2
def wNk : Cond → Bool
  | .fieldLinkNest .. => true
  | .methodLinkNest .. => true
  | .castable .. => true
  | .declares .. => true
  | .privateMethod .. => true
  | .native .. => true
  | _ => false
def wNest : List Cond := lw_tbl.filter wNk
theorem wNest_in {w : Cond} (h : w ∈ lw_tbl) (g : wNk w = true) : w ∈ wNest := List.mem_filter.mpr ⟨h, g⟩
theorem tb_t {w : Cond} (h : w ∈ tables_1) : w ∈ lw_tbl := List.mem_append_right _ h
theorem tb_1 {w : Cond} (h : w ∈ tables_1_1) : w ∈ lw_tbl := tb_t (by rw [tables_1]; exact List.mem_append_left _ h)
theorem tb_2 {w : Cond} (h : w ∈ tables_1_2) : w ∈ lw_tbl := tb_t (by rw [tables_1]; exact List.mem_append_right _ (List.mem_append_left _ h))
theorem tb_3 {w : Cond} (h : w ∈ tables_1_3) : w ∈ lw_tbl := tb_t (by rw [tables_1]; exact List.mem_append_right _ (List.mem_append_right _ (List.mem_append_left _ h)))
theorem tb_4 {w : Cond} (h : w ∈ tables_1_4) : w ∈ lw_tbl := tb_t (by rw [tables_1]; exact List.mem_append_right _ (List.mem_append_right _ (List.mem_append_right _ (List.mem_append_left _ h))))
theorem tb_5 {w : Cond} (h : w ∈ tables_1_5) : w ∈ lw_tbl := tb_t (by rw [tables_1]; exact List.mem_append_right _ (List.mem_append_right _ (List.mem_append_right _ (List.mem_append_right _ (List.mem_append_left _ h)))))
theorem tb_6 {w : Cond} (h : w ∈ tables_1_6) : w ∈ lw_tbl := tb_t (by rw [tables_1]; exact List.mem_append_right _ (List.mem_append_right _ (List.mem_append_right _ (List.mem_append_right _ (List.mem_append_right _ (List.mem_append_left _ h))))))
theorem tb_7 {w : Cond} (h : w ∈ tables_1_7) : w ∈ lw_tbl := tb_t (by rw [tables_1]; exact List.mem_append_right _ (List.mem_append_right _ (List.mem_append_right _ (List.mem_append_right _ (List.mem_append_right _ (List.mem_append_right _ (h)))))))
theorem wm_1_0 : (Jvm.Cond.initialized "GridmenderLaw") ∈ wAll := wAll_in (tb_1 (List.mem_of_getElem? (i := 0) rfl)) rfl
theorem wm_1_1 : (Jvm.Cond.initialized "Gridmender") ∈ wAll := wAll_in (tb_1 (List.mem_of_getElem? (i := 1) rfl)) rfl
theorem wm_1_2 : (Jvm.Cond.initialized "Gridmender$Grid") ∈ wAll := wAll_in (tb_1 (List.mem_of_getElem? (i := 2) rfl)) rfl
theorem wm_1_3 : (Jvm.Cond.initialized "Gridmender$RowSteps") ∈ wAll := wAll_in (tb_1 (List.mem_of_getElem? (i := 3) rfl)) rfl
theorem wm_1_4 : (Jvm.Cond.initialized "Gridmender$DiagonalSteps") ∈ wAll := wAll_in (tb_1 (List.mem_of_getElem? (i := 4) rfl)) rfl
theorem wm_1_5 : (Jvm.Cond.initialized "Gridmender$Equation") ∈ wAll := wAll_in (tb_1 (List.mem_of_getElem? (i := 5) rfl)) rfl
theorem wm_1_6 : (Jvm.Cond.initialized "GridmenderModel") ∈ wAll := wAll_in (tb_1 (List.mem_of_getElem? (i := 6) rfl)) rfl
theorem wm_1_7 : (Jvm.Cond.initialized "GridmenderModel$Grid") ∈ wAll := wAll_in (tb_1 (List.mem_of_getElem? (i := 7) rfl)) rfl
theorem wm_1_8 : (Jvm.Cond.initialized "GridmenderLaw$Out") ∈ wAll := wAll_in (tb_1 (List.mem_of_getElem? (i := 8) rfl)) rfl
theorem wm_1_9 : (Jvm.Cond.initialized "java/lang/Throwable") ∈ wAll := wAll_in (tb_1 (List.mem_of_getElem? (i := 9) rfl)) rfl
theorem wm_1_10 : (Jvm.Cond.initialized "java/lang/Exception") ∈ wAll := wAll_in (tb_1 (List.mem_of_getElem? (i := 10) rfl)) rfl
theorem wm_1_11 : (Jvm.Cond.initialized "java/lang/RuntimeException") ∈ wAll := wAll_in (tb_1 (List.mem_of_getElem? (i := 11) rfl)) rfl
theorem wm_1_12 : (Jvm.Cond.initialized "java/lang/IndexOutOfBoundsException") ∈ wAll := wAll_in (tb_1 (List.mem_of_getElem? (i := 12) rfl)) rfl
theorem wm_1_13 : (Jvm.Cond.initialized "java/lang/IllegalArgumentException") ∈ wAll := wAll_in (tb_1 (List.mem_of_getElem? (i := 13) rfl)) rfl
theorem wm_1_14 : (Jvm.Cond.initialized "java/lang/Math") ∈ wAll := wAll_in (tb_1 (List.mem_of_getElem? (i := 14) rfl)) rfl
theorem wm_1_15 : (Jvm.Cond.initialized "GridmenderModel$Stepped") ∈ wAll := wAll_in (tb_1 (List.mem_of_getElem? (i := 15) rfl)) rfl
theorem wm_1_16 : (Jvm.Cond.initialized "GridmenderModel$Straight") ∈ wAll := wAll_in (tb_1 (List.mem_of_getElem? (i := 16) rfl)) rfl
theorem wm_1_17 : (Jvm.Cond.initialized "java/lang/AbstractStringBuilder") ∈ wAll := wAll_in (tb_1 (List.mem_of_getElem? (i := 17) rfl)) rfl
theorem wm_1_18 : (Jvm.Cond.initialized "java/lang/StringBuilder") ∈ wAll := wAll_in (tb_1 (List.mem_of_getElem? (i := 18) rfl)) rfl
theorem wm_1_19 : (Jvm.Cond.initialized "java/lang/String") ∈ wAll := wAll_in (tb_1 (List.mem_of_getElem? (i := 19) rfl)) rfl
theorem wm_1_20 : (Jvm.Cond.initialized "java/lang/StringUTF16") ∈ wAll := wAll_in (tb_1 (List.mem_of_getElem? (i := 20) rfl)) rfl
theorem wm_1_21 : (Jvm.Cond.initialized "jdk/internal/util/ArraysSupport") ∈ wAll := wAll_in (tb_1 (List.mem_of_getElem? (i := 21) rfl)) rfl
theorem wm_1_22 : (Jvm.Cond.initialized "java/util/Arrays") ∈ wAll := wAll_in (tb_1 (List.mem_of_getElem? (i := 22) rfl)) rfl
theorem wm_1_23 : (Jvm.Cond.initialized "java/lang/System") ∈ wAll := wAll_in (tb_1 (List.mem_of_getElem? (i := 23) rfl)) rfl
theorem wm_1_24 : (Jvm.Cond.initialized "java/lang/StringLatin1") ∈ wAll := wAll_in (tb_1 (List.mem_of_getElem? (i := 24) rfl)) rfl
theorem wm_1_25 : (Jvm.Cond.initialized "jdk/internal/util/Preconditions") ∈ wAll := wAll_in (tb_1 (List.mem_of_getElem? (i := 25) rfl)) rfl
theorem wm_1_26 : (Jvm.Cond.initialized "java/lang/Integer") ∈ wAll := wAll_in (tb_1 (List.mem_of_getElem? (i := 26) rfl)) rfl
theorem wm_1_27 : (Jvm.Cond.initialized "java/lang/Long") ∈ wAll := wAll_in (tb_1 (List.mem_of_getElem? (i := 27) rfl)) rfl
theorem wm_1_28 : (Jvm.Cond.initialized "java/lang/IllegalStateException") ∈ wAll := wAll_in (tb_1 (List.mem_of_getElem? (i := 28) rfl)) rfl
theorem wm_1_29 : (Jvm.Cond.initialized "Gridmender$Determinants") ∈ wAll := wAll_in (tb_1 (List.mem_of_getElem? (i := 29) rfl)) rfl
theorem wm_1_30 : (Jvm.Cond.classLink "GridmenderLaw" (8 : Nat) "Gridmender") ∈ wAll := wAll_in (tb_1 (List.mem_of_getElem? (i := 30) rfl)) rfl
theorem wm_1_31 : (Jvm.Cond.instantiable "Gridmender" (10 : Nat)) ∈ wAll := wAll_in (tb_1 (List.mem_of_getElem? (i := 31) rfl)) rfl
theorem wm_1_32 : (Jvm.Cond.methodLink "GridmenderLaw" (131 : Nat) ({ cls := "Gridmender", name := "<init>", desc := "()V" } : Jvm.MethodName)) ∈ wAll := wAll_in (tb_1 (List.mem_of_getElem? (i := 32) rfl)) rfl
theorem wm_1_33 : (Jvm.Cond.instanceMethod ({ cls := "Gridmender", name := "<init>", desc := "()V" } : Jvm.MethodName)) ∈ wAll := wAll_in (tb_1 (List.mem_of_getElem? (i := 33) rfl)) rfl
theorem wm_1_34 : (Jvm.Cond.code ({ cls := "Gridmender", name := "<init>", desc := "()V" } : Jvm.MethodName) prog_1_method_1_code (2 : Nat) (Option.none : Option Jvm.ClassFile.FieldType)) ∈ wAll := wAll_in (tb_1 (List.mem_of_getElem? (i := 34) rfl)) rfl
theorem wm_1_35 : (Jvm.Cond.methodLink "Gridmender" (1 : Nat) ({ cls := "java/lang/Object", name := "<init>", desc := "()V" } : Jvm.MethodName)) ∈ wAll := wAll_in (tb_1 (List.mem_of_getElem? (i := 35) rfl)) rfl
theorem wm_1_36 : (Jvm.Cond.instanceMethod ({ cls := "java/lang/Object", name := "<init>", desc := "()V" } : Jvm.MethodName)) ∈ wAll := wAll_in (tb_1 (List.mem_of_getElem? (i := 36) rfl)) rfl
theorem wm_1_37 : (Jvm.Cond.code ({ cls := "java/lang/Object", name := "<init>", desc := "()V" } : Jvm.MethodName) object_method_1_code (1 : Nat) (Option.none : Option Jvm.ClassFile.FieldType)) ∈ wAll := wAll_in (tb_1 (List.mem_of_getElem? (i := 37) rfl)) rfl
theorem wm_1_38 : (Jvm.Cond.classLink "Gridmender" (9 : Nat) "Gridmender$Grid") ∈ wAll := wAll_in (tb_1 (List.mem_of_getElem? (i := 38) rfl)) rfl
theorem wt_1_39 : (Jvm.Cond.arrayOver (Jvm.ClassFile.FieldType.object "Gridmender$Grid")) ∈ lw_tbl := tb_1 (List.mem_of_getElem? (i := 39) rfl)
theorem wm_1_40 : (Jvm.Cond.instantiable "Gridmender$Grid" (3 : Nat)) ∈ wAll := wAll_in (tb_1 (List.mem_of_getElem? (i := 40) rfl)) rfl
theorem wn_1_41 : (Jvm.Cond.methodLinkNest "Gridmender" (15 : Nat) ({ cls := "Gridmender$Grid", name := "<init>", desc := "()V" } : Jvm.MethodName) "Gridmender") ∈ wNest := wNest_in (tb_1 (List.mem_of_getElem? (i := 41) rfl)) rfl
theorem wm_1_42 : (Jvm.Cond.instanceMethod ({ cls := "Gridmender$Grid", name := "<init>", desc := "()V" } : Jvm.MethodName)) ∈ wAll := wAll_in (tb_1 (List.mem_of_getElem? (i := 42) rfl)) rfl
theorem wm_1_43 : (Jvm.Cond.code ({ cls := "Gridmender$Grid", name := "<init>", desc := "()V" } : Jvm.MethodName) prog_5_method_1_code (1 : Nat) (Option.none : Option Jvm.ClassFile.FieldType)) ∈ wAll := wAll_in (tb_1 (List.mem_of_getElem? (i := 43) rfl)) rfl
theorem wm_1_44 : (Jvm.Cond.methodLink "Gridmender$Grid" (3 : Nat) ({ cls := "java/lang/Object", name := "<init>", desc := "()V" } : Jvm.MethodName)) ∈ wAll := wAll_in (tb_1 (List.mem_of_getElem? (i := 44) rfl)) rfl
theorem wm_1_45 : (Jvm.Cond.fieldLink "Gridmender$Grid" (9 : Nat) "Gridmender$Grid" "cells" "[J") ∈ wAll := wAll_in (tb_1 (List.mem_of_getElem? (i := 45) rfl)) rfl
theorem wm_1_46 : (Jvm.Cond.fieldLink "Gridmender$Grid" (15 : Nat) "Gridmender$Grid" "rows" "I") ∈ wAll := wAll_in (tb_1 (List.mem_of_getElem? (i := 46) rfl)) rfl
theorem wn_1_47 : (Jvm.Cond.fieldLinkNest "Gridmender$Determinants" (9 : Nat) "Gridmender$Grid" "rows" "I" "Gridmender") ∈ wNest := wNest_in (tb_1 (List.mem_of_getElem? (i := 47) rfl)) rfl
theorem wn_1_48 : (Jvm.Cond.fieldLinkNest "Gridmender$RowSteps" (25 : Nat) "Gridmender$Grid" "rows" "I" "Gridmender") ∈ wNest := wNest_in (tb_1 (List.mem_of_getElem? (i := 48) rfl)) rfl
theorem wn_1_49 : (Jvm.Cond.fieldLinkNest "Gridmender$DiagonalSteps" (28 : Nat) "Gridmender$Grid" "rows" "I" "Gridmender") ∈ wNest := wNest_in (tb_1 (List.mem_of_getElem? (i := 49) rfl)) rfl
theorem wn_1_50 : (Jvm.Cond.fieldLinkNest "Gridmender$Equation" (55 : Nat) "Gridmender$Grid" "rows" "I" "Gridmender") ∈ wNest := wNest_in (tb_1 (List.mem_of_getElem? (i := 50) rfl)) rfl
theorem wn_1_51 : (Jvm.Cond.fieldLinkNest "Gridmender" (92 : Nat) "Gridmender$Grid" "rows" "I" "Gridmender") ∈ wNest := wNest_in (tb_1 (List.mem_of_getElem? (i := 51) rfl)) rfl
theorem wm_1_52 : (Jvm.Cond.fieldLink "Gridmender$Grid" (19 : Nat) "Gridmender$Grid" "columns" "I") ∈ wAll := wAll_in (tb_1 (List.mem_of_getElem? (i := 52) rfl)) rfl
theorem wn_1_53 : (Jvm.Cond.fieldLinkNest "Gridmender$Determinants" (15 : Nat) "Gridmender$Grid" "columns" "I" "Gridmender") ∈ wNest := wNest_in (tb_1 (List.mem_of_getElem? (i := 53) rfl)) rfl
theorem wn_1_54 : (Jvm.Cond.fieldLinkNest "Gridmender$DiagonalSteps" (36 : Nat) "Gridmender$Grid" "columns" "I" "Gridmender") ∈ wNest := wNest_in (tb_1 (List.mem_of_getElem? (i := 54) rfl)) rfl
theorem wn_1_55 : (Jvm.Cond.fieldLinkNest "Gridmender$Equation" (43 : Nat) "Gridmender$Grid" "columns" "I" "Gridmender") ∈ wNest := wNest_in (tb_1 (List.mem_of_getElem? (i := 55) rfl)) rfl
theorem wn_1_56 : (Jvm.Cond.fieldLinkNest "Gridmender$RowSteps" (37 : Nat) "Gridmender$Grid" "columns" "I" "Gridmender") ∈ wNest := wNest_in (tb_1 (List.mem_of_getElem? (i := 56) rfl)) rfl
theorem wn_1_57 : (Jvm.Cond.fieldLinkNest "Gridmender" (96 : Nat) "Gridmender$Grid" "columns" "I" "Gridmender") ∈ wNest := wNest_in (tb_1 (List.mem_of_getElem? (i := 57) rfl)) rfl
theorem wm_1_64 : (Jvm.Cond.superclass "Gridmender$Grid" "java/lang/Object") ∈ wAll := wAll_in (tb_1 (List.mem_of_getElem? (i := 64) rfl)) rfl
theorem wm_1_65 : (Jvm.Cond.arrayClass Jvm.ClassFile.FieldType.long) ∈ wAll := wAll_in (tb_1 (List.mem_of_getElem? (i := 65) rfl)) rfl
theorem wm_1_66 : (Jvm.Cond.classLink "Gridmender" (23 : Nat) "Gridmender$RowSteps") ∈ wAll := wAll_in (tb_1 (List.mem_of_getElem? (i := 66) rfl)) rfl
theorem wm_1_67 : (Jvm.Cond.instantiable "Gridmender$RowSteps" (3 : Nat)) ∈ wAll := wAll_in (tb_1 (List.mem_of_getElem? (i := 67) rfl)) rfl
theorem wn_1_68 : (Jvm.Cond.methodLinkNest "Gridmender" (25 : Nat) ({ cls := "Gridmender$RowSteps", name := "<init>", desc := "()V" } : Jvm.MethodName) "Gridmender") ∈ wNest := wNest_in (tb_1 (List.mem_of_getElem? (i := 68) rfl)) rfl
theorem wm_1_69 : (Jvm.Cond.instanceMethod ({ cls := "Gridmender$RowSteps", name := "<init>", desc := "()V" } : Jvm.MethodName)) ∈ wAll := wAll_in (tb_1 (List.mem_of_getElem? (i := 69) rfl)) rfl
theorem wm_1_70 : (Jvm.Cond.code ({ cls := "Gridmender$RowSteps", name := "<init>", desc := "()V" } : Jvm.MethodName) prog_6_method_1_code (1 : Nat) (Option.none : Option Jvm.ClassFile.FieldType)) ∈ wAll := wAll_in (tb_1 (List.mem_of_getElem? (i := 70) rfl)) rfl
theorem wm_1_71 : (Jvm.Cond.methodLink "Gridmender$RowSteps" (3 : Nat) ({ cls := "java/lang/Object", name := "<init>", desc := "()V" } : Jvm.MethodName)) ∈ wAll := wAll_in (tb_1 (List.mem_of_getElem? (i := 71) rfl)) rfl
theorem wm_1_72 : (Jvm.Cond.classLink "Gridmender$RowSteps" (9 : Nat) "Gridmender$Grid") ∈ wAll := wAll_in (tb_1 (List.mem_of_getElem? (i := 72) rfl)) rfl
theorem wn_1_73 : (Jvm.Cond.methodLinkNest "Gridmender$RowSteps" (11 : Nat) ({ cls := "Gridmender$Grid", name := "<init>", desc := "()V" } : Jvm.MethodName) "Gridmender") ∈ wNest := wNest_in (tb_1 (List.mem_of_getElem? (i := 73) rfl)) rfl
theorem wm_1_74 : (Jvm.Cond.fieldLink "Gridmender$RowSteps" (12 : Nat) "Gridmender$RowSteps" "work" "LGridmender$Grid;") ∈ wAll := wAll_in (tb_1 (List.mem_of_getElem? (i := 74) rfl)) rfl
theorem wn_1_75 : (Jvm.Cond.fieldLinkNest "Gridmender" (239 : Nat) "Gridmender$RowSteps" "work" "LGridmender$Grid;" "Gridmender") ∈ wNest := wNest_in (tb_1 (List.mem_of_getElem? (i := 75) rfl)) rfl
theorem wm_1_76 : (Jvm.Cond.fieldLink "Gridmender$RowSteps" (18 : Nat) "Gridmender$RowSteps" "rowChange" "LGridmender$Grid;") ∈ wAll := wAll_in (tb_1 (List.mem_of_getElem? (i := 76) rfl)) rfl
theorem wn_1_77 : (Jvm.Cond.fieldLinkNest "Gridmender" (300 : Nat) "Gridmender$RowSteps" "rowChange" "LGridmender$Grid;" "Gridmender") ∈ wNest := wNest_in (tb_1 (List.mem_of_getElem? (i := 77) rfl)) rfl
theorem wm_1_78 : (Jvm.Cond.fieldLink "Gridmender$RowSteps" (33 : Nat) "Gridmender$RowSteps" "isGreat" "Z") ∈ wAll := wAll_in (tb_1 (List.mem_of_getElem? (i := 78) rfl)) rfl
theorem wn_1_79 : (Jvm.Cond.fieldLinkNest "Gridmender" (199 : Nat) "Gridmender$RowSteps" "isGreat" "Z" "Gridmender") ∈ wNest := wNest_in (tb_1 (List.mem_of_getElem? (i := 79) rfl)) rfl
theorem wm_1_86 : (Jvm.Cond.superclass "Gridmender$RowSteps" "java/lang/Object") ∈ wAll := wAll_in (tb_1 (List.mem_of_getElem? (i := 86) rfl)) rfl
theorem wm_1_87 : (Jvm.Cond.classLink "Gridmender" (30 : Nat) "Gridmender$DiagonalSteps") ∈ wAll := wAll_in (tb_1 (List.mem_of_getElem? (i := 87) rfl)) rfl
theorem wm_1_88 : (Jvm.Cond.instantiable "Gridmender$DiagonalSteps" (4 : Nat)) ∈ wAll := wAll_in (tb_1 (List.mem_of_getElem? (i := 88) rfl)) rfl
theorem wn_1_89 : (Jvm.Cond.methodLinkNest "Gridmender" (32 : Nat) ({ cls := "Gridmender$DiagonalSteps", name := "<init>", desc := "()V" } : Jvm.MethodName) "Gridmender") ∈ wNest := wNest_in (tb_1 (List.mem_of_getElem? (i := 89) rfl)) rfl
theorem wm_1_90 : (Jvm.Cond.instanceMethod ({ cls := "Gridmender$DiagonalSteps", name := "<init>", desc := "()V" } : Jvm.MethodName)) ∈ wAll := wAll_in (tb_1 (List.mem_of_getElem? (i := 90) rfl)) rfl
theorem wm_1_91 : (Jvm.Cond.code ({ cls := "Gridmender$DiagonalSteps", name := "<init>", desc := "()V" } : Jvm.MethodName) prog_3_method_1_code (1 : Nat) (Option.none : Option Jvm.ClassFile.FieldType)) ∈ wAll := wAll_in (tb_1 (List.mem_of_getElem? (i := 91) rfl)) rfl
theorem wm_1_92 : (Jvm.Cond.methodLink "Gridmender$DiagonalSteps" (3 : Nat) ({ cls := "java/lang/Object", name := "<init>", desc := "()V" } : Jvm.MethodName)) ∈ wAll := wAll_in (tb_1 (List.mem_of_getElem? (i := 92) rfl)) rfl
theorem wm_1_93 : (Jvm.Cond.classLink "Gridmender$DiagonalSteps" (9 : Nat) "Gridmender$Grid") ∈ wAll := wAll_in (tb_1 (List.mem_of_getElem? (i := 93) rfl)) rfl
theorem wn_1_94 : (Jvm.Cond.methodLinkNest "Gridmender$DiagonalSteps" (11 : Nat) ({ cls := "Gridmender$Grid", name := "<init>", desc := "()V" } : Jvm.MethodName) "Gridmender") ∈ wNest := wNest_in (tb_1 (List.mem_of_getElem? (i := 94) rfl)) rfl
theorem wm_1_95 : (Jvm.Cond.fieldLink "Gridmender$DiagonalSteps" (12 : Nat) "Gridmender$DiagonalSteps" "work" "LGridmender$Grid;") ∈ wAll := wAll_in (tb_1 (List.mem_of_getElem? (i := 95) rfl)) rfl
theorem wn_1_96 : (Jvm.Cond.fieldLinkNest "Gridmender$Equation" (40 : Nat) "Gridmender$DiagonalSteps" "work" "LGridmender$Grid;" "Gridmender") ∈ wNest := wNest_in (tb_1 (List.mem_of_getElem? (i := 96) rfl)) rfl
theorem wn_1_97 : (Jvm.Cond.fieldLinkNest "Gridmender" (303 : Nat) "Gridmender$DiagonalSteps" "work" "LGridmender$Grid;" "Gridmender") ∈ wNest := wNest_in (tb_1 (List.mem_of_getElem? (i := 97) rfl)) rfl
theorem wm_1_98 : (Jvm.Cond.fieldLink "Gridmender$DiagonalSteps" (18 : Nat) "Gridmender$DiagonalSteps" "left" "LGridmender$Grid;") ∈ wAll := wAll_in (tb_1 (List.mem_of_getElem? (i := 98) rfl)) rfl
theorem wn_1_99 : (Jvm.Cond.fieldLinkNest "Gridmender$Equation" (31 : Nat) "Gridmender$DiagonalSteps" "left" "LGridmender$Grid;" "Gridmender") ∈ wNest := wNest_in (tb_1 (List.mem_of_getElem? (i := 99) rfl)) rfl
theorem wn_1_100 : (Jvm.Cond.fieldLinkNest "Gridmender" (304 : Nat) "Gridmender$DiagonalSteps" "left" "LGridmender$Grid;" "Gridmender") ∈ wNest := wNest_in (tb_1 (List.mem_of_getElem? (i := 100) rfl)) rfl
theorem wm_1_101 : (Jvm.Cond.fieldLink "Gridmender$DiagonalSteps" (21 : Nat) "Gridmender$DiagonalSteps" "right" "LGridmender$Grid;") ∈ wAll := wAll_in (tb_1 (List.mem_of_getElem? (i := 101) rfl)) rfl
theorem wn_1_102 : (Jvm.Cond.fieldLinkNest "Gridmender$Equation" (80 : Nat) "Gridmender$DiagonalSteps" "right" "LGridmender$Grid;" "Gridmender") ∈ wNest := wNest_in (tb_1 (List.mem_of_getElem? (i := 102) rfl)) rfl
theorem wn_1_103 : (Jvm.Cond.fieldLinkNest "Gridmender" (233 : Nat) "Gridmender$DiagonalSteps" "right" "LGridmender$Grid;" "Gridmender") ∈ wNest := wNest_in (tb_1 (List.mem_of_getElem? (i := 103) rfl)) rfl
theorem wm_1_104 : (Jvm.Cond.fieldLink "Gridmender$DiagonalSteps" (39 : Nat) "Gridmender$DiagonalSteps" "isGreat" "Z") ∈ wAll := wAll_in (tb_1 (List.mem_of_getElem? (i := 104) rfl)) rfl
theorem wn_1_105 : (Jvm.Cond.fieldLinkNest "Gridmender" (156 : Nat) "Gridmender$DiagonalSteps" "isGreat" "Z" "Gridmender") ∈ wNest := wNest_in (tb_1 (List.mem_of_getElem? (i := 105) rfl)) rfl
theorem wm_1_114 : (Jvm.Cond.superclass "Gridmender$DiagonalSteps" "java/lang/Object") ∈ wAll := wAll_in (tb_1 (List.mem_of_getElem? (i := 114) rfl)) rfl
theorem wm_1_115 : (Jvm.Cond.classLink "Gridmender" (37 : Nat) "Gridmender$Equation") ∈ wAll := wAll_in (tb_1 (List.mem_of_getElem? (i := 115) rfl)) rfl
theorem wm_1_116 : (Jvm.Cond.instantiable "Gridmender$Equation" (4 : Nat)) ∈ wAll := wAll_in (tb_1 (List.mem_of_getElem? (i := 116) rfl)) rfl
theorem wn_1_117 : (Jvm.Cond.methodLinkNest "Gridmender" (39 : Nat) ({ cls := "Gridmender$Equation", name := "<init>", desc := "()V" } : Jvm.MethodName) "Gridmender") ∈ wNest := wNest_in (tb_1 (List.mem_of_getElem? (i := 117) rfl)) rfl
theorem wm_1_118 : (Jvm.Cond.instanceMethod ({ cls := "Gridmender$Equation", name := "<init>", desc := "()V" } : Jvm.MethodName)) ∈ wAll := wAll_in (tb_1 (List.mem_of_getElem? (i := 118) rfl)) rfl
theorem wm_1_119 : (Jvm.Cond.code ({ cls := "Gridmender$Equation", name := "<init>", desc := "()V" } : Jvm.MethodName) prog_4_method_1_code (1 : Nat) (Option.none : Option Jvm.ClassFile.FieldType)) ∈ wAll := wAll_in (tb_1 (List.mem_of_getElem? (i := 119) rfl)) rfl
theorem wm_1_120 : (Jvm.Cond.methodLink "Gridmender$Equation" (3 : Nat) ({ cls := "java/lang/Object", name := "<init>", desc := "()V" } : Jvm.MethodName)) ∈ wAll := wAll_in (tb_1 (List.mem_of_getElem? (i := 120) rfl)) rfl
theorem wm_1_121 : (Jvm.Cond.classLink "Gridmender$Equation" (9 : Nat) "Gridmender$Grid") ∈ wAll := wAll_in (tb_1 (List.mem_of_getElem? (i := 121) rfl)) rfl
theorem wn_1_122 : (Jvm.Cond.methodLinkNest "Gridmender$Equation" (11 : Nat) ({ cls := "Gridmender$Grid", name := "<init>", desc := "()V" } : Jvm.MethodName) "Gridmender") ∈ wNest := wNest_in (tb_1 (List.mem_of_getElem? (i := 122) rfl)) rfl
theorem wm_1_123 : (Jvm.Cond.fieldLink "Gridmender$Equation" (12 : Nat) "Gridmender$Equation" "given" "LGridmender$Grid;") ∈ wAll := wAll_in (tb_1 (List.mem_of_getElem? (i := 123) rfl)) rfl
theorem wm_1_124 : (Jvm.Cond.fieldLink "Gridmender$Equation" (18 : Nat) "Gridmender$Equation" "aim" "LGridmender$Grid;") ∈ wAll := wAll_in (tb_1 (List.mem_of_getElem? (i := 124) rfl)) rfl
theorem wm_1_125 : (Jvm.Cond.fieldLink "Gridmender$Equation" (21 : Nat) "Gridmender$Equation" "shares" "LGridmender$Grid;") ∈ wAll := wAll_in (tb_1 (List.mem_of_getElem? (i := 125) rfl)) rfl
theorem wm_1_126 : (Jvm.Cond.fieldLink "Gridmender$Equation" (24 : Nat) "Gridmender$Equation" "solution" "LGridmender$Grid;") ∈ wAll := wAll_in (tb_1 (List.mem_of_getElem? (i := 126) rfl)) rfl
theorem wn_1_127 : (Jvm.Cond.fieldLinkNest "Gridmender" (168 : Nat) "Gridmender$Equation" "solution" "LGridmender$Grid;" "Gridmender") ∈ wNest := wNest_in (tb_1 (List.mem_of_getElem? (i := 127) rfl)) rfl
theorem wm_1_136 : (Jvm.Cond.superclass "Gridmender$Equation" "java/lang/Object") ∈ wAll := wAll_in (tb_1 (List.mem_of_getElem? (i := 136) rfl)) rfl
theorem wm_1_137 : (Jvm.Cond.fieldLink "Gridmender" (11 : Nat) "Gridmender" "tables" "[LGridmender$Grid;") ∈ wAll := wAll_in (tb_1 (List.mem_of_getElem? (i := 137) rfl)) rfl
theorem wm_1_138 : (Jvm.Cond.fieldLink "Gridmender" (16 : Nat) "Gridmender" "draft" "LGridmender$Grid;") ∈ wAll := wAll_in (tb_1 (List.mem_of_getElem? (i := 138) rfl)) rfl
theorem wm_1_139 : (Jvm.Cond.fieldLink "Gridmender" (20 : Nat) "Gridmender" "check" "LGridmender$Grid;") ∈ wAll := wAll_in (tb_1 (List.mem_of_getElem? (i := 139) rfl)) rfl
theorem wm_1_140 : (Jvm.Cond.fieldLink "Gridmender" (26 : Nat) "Gridmender" "rowSteps" "LGridmender$RowSteps;") ∈ wAll := wAll_in (tb_1 (List.mem_of_getElem? (i := 140) rfl)) rfl
theorem wm_1_141 : (Jvm.Cond.fieldLink "Gridmender" (33 : Nat) "Gridmender" "diagonalSteps" "LGridmender$DiagonalSteps;") ∈ wAll := wAll_in (tb_1 (List.mem_of_getElem? (i := 141) rfl)) rfl
theorem wm_1_142 : (Jvm.Cond.fieldLink "Gridmender" (40 : Nat) "Gridmender" "equation" "LGridmender$Equation;") ∈ wAll := wAll_in (tb_1 (List.mem_of_getElem? (i := 142) rfl)) rfl
theorem wm_1_143 : (Jvm.Cond.fieldLink "Gridmender" (44 : Nat) "Gridmender" "rowNumbers" "[J") ∈ wAll := wAll_in (tb_1 (List.mem_of_getElem? (i := 143) rfl)) rfl
theorem wm_1_144 : (Jvm.Cond.fieldLink "Gridmender" (285 : Nat) "Gridmender" "acts" "I") ∈ wAll := wAll_in (tb_1 (List.mem_of_getElem? (i := 144) rfl)) rfl
theorem wm_1_145 : (Jvm.Cond.fieldLink "Gridmender" (288 : Nat) "Gridmender" "refusals" "I") ∈ wAll := wAll_in (tb_1 (List.mem_of_getElem? (i := 145) rfl)) rfl
theorem wm_1_146 : (Jvm.Cond.fieldLink "Gridmender" (256 : Nat) "Gridmender" "knocks" "I") ∈ wAll := wAll_in (tb_1 (List.mem_of_getElem? (i := 146) rfl)) rfl
theorem wm_1_167 : (Jvm.Cond.superclass "Gridmender" "java/lang/Object") ∈ wAll := wAll_in (tb_1 (List.mem_of_getElem? (i := 167) rfl)) rfl
theorem wm_1_168 : (Jvm.Cond.methodLink "GridmenderLaw" (244 : Nat) ({ cls := "Gridmender", name := "knock", desc := "()I" } : Jvm.MethodName)) ∈ wAll := wAll_in (tb_1 (List.mem_of_getElem? (i := 168) rfl)) rfl
theorem wm_1_169 : (Jvm.Cond.instanceMethod ({ cls := "Gridmender", name := "knock", desc := "()I" } : Jvm.MethodName)) ∈ wAll := wAll_in (tb_1 (List.mem_of_getElem? (i := 169) rfl)) rfl
theorem wm_1_170 : (Jvm.Cond.selects "Gridmender" ({ cls := "Gridmender", name := "knock", desc := "()I" } : Jvm.MethodName) ({ cls := "Gridmender", name := "knock", desc := "()I" } : Jvm.MethodName)) ∈ wAll := wAll_in (tb_1 (List.mem_of_getElem? (i := 170) rfl)) rfl
theorem wm_1_171 : (Jvm.Cond.code ({ cls := "Gridmender", name := "knock", desc := "()I" } : Jvm.MethodName) prog_1_method_33_code (1 : Nat) (Option.some Jvm.ClassFile.FieldType.int)) ∈ wAll := wAll_in (tb_1 (List.mem_of_getElem? (i := 171) rfl)) rfl
theorem wm_1_172 : (Jvm.Cond.methodLink "GridmenderLaw" (248 : Nat) ({ cls := "Gridmender", name := "isSound", desc := "()Z" } : Jvm.MethodName)) ∈ wAll := wAll_in (tb_1 (List.mem_of_getElem? (i := 172) rfl)) rfl
theorem wm_1_173 : (Jvm.Cond.instanceMethod ({ cls := "Gridmender", name := "isSound", desc := "()Z" } : Jvm.MethodName)) ∈ wAll := wAll_in (tb_1 (List.mem_of_getElem? (i := 173) rfl)) rfl
theorem wm_1_174 : (Jvm.Cond.selects "Gridmender" ({ cls := "Gridmender", name := "isSound", desc := "()Z" } : Jvm.MethodName) ({ cls := "Gridmender", name := "isSound", desc := "()Z" } : Jvm.MethodName)) ∈ wAll := wAll_in (tb_1 (List.mem_of_getElem? (i := 174) rfl)) rfl
theorem wm_1_175 : (Jvm.Cond.code ({ cls := "Gridmender", name := "isSound", desc := "()Z" } : Jvm.MethodName) prog_1_method_34_code (1 : Nat) (Option.some Jvm.ClassFile.FieldType.boolean)) ∈ wAll := wAll_in (tb_1 (List.mem_of_getElem? (i := 175) rfl)) rfl
theorem wm_1_176 : (Jvm.Cond.methodLink "Gridmender" (259 : Nat) ({ cls := "Gridmender", name := "isFirstSound", desc := "()Z" } : Jvm.MethodName)) ∈ wAll := wAll_in (tb_1 (List.mem_of_getElem? (i := 176) rfl)) rfl
theorem wn_1_177 : (Jvm.Cond.privateMethod ({ cls := "Gridmender", name := "isFirstSound", desc := "()Z" } : Jvm.MethodName)) ∈ wNest := wNest_in (tb_1 (List.mem_of_getElem? (i := 177) rfl)) rfl
theorem wm_1_178 : (Jvm.Cond.instanceMethod ({ cls := "Gridmender", name := "isFirstSound", desc := "()Z" } : Jvm.MethodName)) ∈ wAll := wAll_in (tb_1 (List.mem_of_getElem? (i := 178) rfl)) rfl
theorem wm_1_179 : (Jvm.Cond.code ({ cls := "Gridmender", name := "isFirstSound", desc := "()Z" } : Jvm.MethodName) prog_1_method_52_code (2 : Nat) (Option.some Jvm.ClassFile.FieldType.boolean)) ∈ wAll := wAll_in (tb_1 (List.mem_of_getElem? (i := 179) rfl)) rfl
theorem wm_1_180 : (Jvm.Cond.methodLink "Gridmender" (188 : Nat) ({ cls := "Gridmender$Determinants", name := "byFirstRow", desc := "(LGridmender$Grid;)J" } : Jvm.MethodName)) ∈ wAll := wAll_in (tb_1 (List.mem_of_getElem? (i := 180) rfl)) rfl
theorem wm_1_181 : (Jvm.Cond.static ({ cls := "Gridmender$Determinants", name := "byFirstRow", desc := "(LGridmender$Grid;)J" } : Jvm.MethodName)) ∈ wAll := wAll_in (tb_1 (List.mem_of_getElem? (i := 181) rfl)) rfl
theorem wm_1_182 : (Jvm.Cond.code ({ cls := "Gridmender$Determinants", name := "byFirstRow", desc := "(LGridmender$Grid;)J" } : Jvm.MethodName) prog_2_method_2_code (1 : Nat) (Option.some Jvm.ClassFile.FieldType.long)) ∈ wAll := wAll_in (tb_1 (List.mem_of_getElem? (i := 182) rfl)) rfl
theorem wm_1_183 : (Jvm.Cond.methodLink "Gridmender$Determinants" (18 : Nat) ({ cls := "Gridmender$Determinants", name := "ofRest", desc := "(LGridmender$Grid;III)J" } : Jvm.MethodName)) ∈ wAll := wAll_in (tb_1 (List.mem_of_getElem? (i := 183) rfl)) rfl
theorem wm_1_184 : (Jvm.Cond.static ({ cls := "Gridmender$Determinants", name := "ofRest", desc := "(LGridmender$Grid;III)J" } : Jvm.MethodName)) ∈ wAll := wAll_in (tb_1 (List.mem_of_getElem? (i := 184) rfl)) rfl
theorem wm_1_185 : (Jvm.Cond.code ({ cls := "Gridmender$Determinants", name := "ofRest", desc := "(LGridmender$Grid;III)J" } : Jvm.MethodName) prog_2_method_3_code (10 : Nat) (Option.some Jvm.ClassFile.FieldType.long)) ∈ wAll := wAll_in (tb_1 (List.mem_of_getElem? (i := 185) rfl)) rfl
theorem wm_1_186 : (Jvm.Cond.methodLink "Gridmender$Determinants" (24 : Nat) ({ cls := "Gridmender$Grid", name := "get", desc := "(II)J" } : Jvm.MethodName)) ∈ wAll := wAll_in (tb_1 (List.mem_of_getElem? (i := 186) rfl)) rfl
theorem wm_1_187 : (Jvm.Cond.instanceMethod ({ cls := "Gridmender$Grid", name := "get", desc := "(II)J" } : Jvm.MethodName)) ∈ wAll := wAll_in (tb_1 (List.mem_of_getElem? (i := 187) rfl)) rfl
theorem wm_1_188 : (Jvm.Cond.selects "Gridmender$Grid" ({ cls := "Gridmender$Grid", name := "get", desc := "(II)J" } : Jvm.MethodName) ({ cls := "Gridmender$Grid", name := "get", desc := "(II)J" } : Jvm.MethodName)) ∈ wAll := wAll_in (tb_1 (List.mem_of_getElem? (i := 188) rfl)) rfl
theorem wm_1_189 : (Jvm.Cond.code ({ cls := "Gridmender$Grid", name := "get", desc := "(II)J" } : Jvm.MethodName) prog_5_method_2_code (3 : Nat) (Option.some Jvm.ClassFile.FieldType.long)) ∈ wAll := wAll_in (tb_1 (List.mem_of_getElem? (i := 189) rfl)) rfl
theorem wm_1_190 : (Jvm.Cond.methodLink "Gridmender" (194 : Nat) ({ cls := "Gridmender$Determinants", name := "bySequences", desc := "(LGridmender$Grid;II)J" } : Jvm.MethodName)) ∈ wAll := wAll_in (tb_1 (List.mem_of_getElem? (i := 190) rfl)) rfl
theorem wm_1_191 : (Jvm.Cond.static ({ cls := "Gridmender$Determinants", name := "bySequences", desc := "(LGridmender$Grid;II)J" } : Jvm.MethodName)) ∈ wAll := wAll_in (tb_1 (List.mem_of_getElem? (i := 191) rfl)) rfl
theorem wm_1_192 : (Jvm.Cond.code ({ cls := "Gridmender$Determinants", name := "bySequences", desc := "(LGridmender$Grid;II)J" } : Jvm.MethodName) prog_2_method_4_code (9 : Nat) (Option.some Jvm.ClassFile.FieldType.long)) ∈ wAll := wAll_in (tb_1 (List.mem_of_getElem? (i := 192) rfl)) rfl
theorem wm_1_193 : (Jvm.Cond.methodLink "Gridmender$Determinants" (28 : Nat) ({ cls := "Gridmender$Determinants", name := "bySequences", desc := "(LGridmender$Grid;II)J" } : Jvm.MethodName)) ∈ wAll := wAll_in (tb_1 (List.mem_of_getElem? (i := 193) rfl)) rfl
theorem wm_1_194 : (Jvm.Cond.methodLink "Gridmender$Determinants" (32 : Nat) ({ cls := "java/lang/Integer", name := "bitCount", desc := "(I)I" } : Jvm.MethodName)) ∈ wAll := wAll_in (tb_1 (List.mem_of_getElem? (i := 194) rfl)) rfl
theorem wm_1_195 : (Jvm.Cond.static ({ cls := "java/lang/Integer", name := "bitCount", desc := "(I)I" } : Jvm.MethodName)) ∈ wAll := wAll_in (tb_1 (List.mem_of_getElem? (i := 195) rfl)) rfl
theorem wm_1_196 : (Jvm.Cond.code ({ cls := "java/lang/Integer", name := "bitCount", desc := "(I)I" } : Jvm.MethodName) prog_19_method_49_code (1 : Nat) (Option.some Jvm.ClassFile.FieldType.int)) ∈ wAll := wAll_in (tb_1 (List.mem_of_getElem? (i := 196) rfl)) rfl
theorem wm_1_197 : (Jvm.Cond.constant "java/lang/Integer" (265 : Nat) (1431655765 : Int32)) ∈ wAll := wAll_in (tb_1 (List.mem_of_getElem? (i := 197) rfl)) rfl
theorem wm_1_198 : (Jvm.Cond.constant "java/lang/Integer" (266 : Nat) (858993459 : Int32)) ∈ wAll := wAll_in (tb_1 (List.mem_of_getElem? (i := 198) rfl)) rfl
theorem wm_1_199 : (Jvm.Cond.constant "java/lang/Integer" (267 : Nat) (252645135 : Int32)) ∈ wAll := wAll_in (tb_1 (List.mem_of_getElem? (i := 199) rfl)) rfl
theorem wm_1_200 : (Jvm.Cond.methodLink "Gridmender" (198 : Nat) ({ cls := "Gridmender$RowSteps", name := "walk", desc := "(LGridmender$Grid;)V" } : Jvm.MethodName)) ∈ wAll := wAll_in (tb_1 (List.mem_of_getElem? (i := 200) rfl)) rfl
theorem wm_1_201 : (Jvm.Cond.instanceMethod ({ cls := "Gridmender$RowSteps", name := "walk", desc := "(LGridmender$Grid;)V" } : Jvm.MethodName)) ∈ wAll := wAll_in (tb_1 (List.mem_of_getElem? (i := 201) rfl)) rfl
theorem wm_1_202 : (Jvm.Cond.selects "Gridmender$RowSteps" ({ cls := "Gridmender$RowSteps", name := "walk", desc := "(LGridmender$Grid;)V" } : Jvm.MethodName) ({ cls := "Gridmender$RowSteps", name := "walk", desc := "(LGridmender$Grid;)V" } : Jvm.MethodName)) ∈ wAll := wAll_in (tb_1 (List.mem_of_getElem? (i := 202) rfl)) rfl
theorem wm_1_203 : (Jvm.Cond.code ({ cls := "Gridmender$RowSteps", name := "walk", desc := "(LGridmender$Grid;)V" } : Jvm.MethodName) prog_6_method_2_code (4 : Nat) (Option.none : Option Jvm.ClassFile.FieldType)) ∈ wAll := wAll_in (tb_1 (List.mem_of_getElem? (i := 203) rfl)) rfl
theorem wm_1_204 : (Jvm.Cond.methodLink "Gridmender$RowSteps" (21 : Nat) ({ cls := "Gridmender$Grid", name := "becomeLike", desc := "(LGridmender$Grid;)V" } : Jvm.MethodName)) ∈ wAll := wAll_in (tb_1 (List.mem_of_getElem? (i := 204) rfl)) rfl
theorem wm_1_205 : (Jvm.Cond.instanceMethod ({ cls := "Gridmender$Grid", name := "becomeLike", desc := "(LGridmender$Grid;)V" } : Jvm.MethodName)) ∈ wAll := wAll_in (tb_1 (List.mem_of_getElem? (i := 205) rfl)) rfl
theorem wm_1_206 : (Jvm.Cond.selects "Gridmender$Grid" ({ cls := "Gridmender$Grid", name := "becomeLike", desc := "(LGridmender$Grid;)V" } : Jvm.MethodName) ({ cls := "Gridmender$Grid", name := "becomeLike", desc := "(LGridmender$Grid;)V" } : Jvm.MethodName)) ∈ wAll := wAll_in (tb_1 (List.mem_of_getElem? (i := 206) rfl)) rfl
theorem wm_1_207 : (Jvm.Cond.code ({ cls := "Gridmender$Grid", name := "becomeLike", desc := "(LGridmender$Grid;)V" } : Jvm.MethodName) prog_5_method_8_code (3 : Nat) (Option.none : Option Jvm.ClassFile.FieldType)) ∈ wAll := wAll_in (tb_1 (List.mem_of_getElem? (i := 207) rfl)) rfl
theorem wm_1_208 : (Jvm.Cond.methodLink "Gridmender$RowSteps" (29 : Nat) ({ cls := "Gridmender$Grid", name := "becomeUnit", desc := "(I)V" } : Jvm.MethodName)) ∈ wAll := wAll_in (tb_1 (List.mem_of_getElem? (i := 208) rfl)) rfl
theorem wm_1_209 : (Jvm.Cond.instanceMethod ({ cls := "Gridmender$Grid", name := "becomeUnit", desc := "(I)V" } : Jvm.MethodName)) ∈ wAll := wAll_in (tb_1 (List.mem_of_getElem? (i := 209) rfl)) rfl
theorem wm_1_210 : (Jvm.Cond.selects "Gridmender$Grid" ({ cls := "Gridmender$Grid", name := "becomeUnit", desc := "(I)V" } : Jvm.MethodName) ({ cls := "Gridmender$Grid", name := "becomeUnit", desc := "(I)V" } : Jvm.MethodName)) ∈ wAll := wAll_in (tb_1 (List.mem_of_getElem? (i := 210) rfl)) rfl
theorem wm_1_211 : (Jvm.Cond.code ({ cls := "Gridmender$Grid", name := "becomeUnit", desc := "(I)V" } : Jvm.MethodName) prog_5_method_7_code (3 : Nat) (Option.none : Option Jvm.ClassFile.FieldType)) ∈ wAll := wAll_in (tb_1 (List.mem_of_getElem? (i := 211) rfl)) rfl
theorem wm_1_212 : (Jvm.Cond.methodLink "Gridmender$Grid" (31 : Nat) ({ cls := "Gridmender$Grid", name := "reshape", desc := "(II)V" } : Jvm.MethodName)) ∈ wAll := wAll_in (tb_1 (List.mem_of_getElem? (i := 212) rfl)) rfl
theorem wm_1_213 : (Jvm.Cond.instanceMethod ({ cls := "Gridmender$Grid", name := "reshape", desc := "(II)V" } : Jvm.MethodName)) ∈ wAll := wAll_in (tb_1 (List.mem_of_getElem? (i := 213) rfl)) rfl
theorem wm_1_214 : (Jvm.Cond.selects "Gridmender$Grid" ({ cls := "Gridmender$Grid", name := "reshape", desc := "(II)V" } : Jvm.MethodName) ({ cls := "Gridmender$Grid", name := "reshape", desc := "(II)V" } : Jvm.MethodName)) ∈ wAll := wAll_in (tb_1 (List.mem_of_getElem? (i := 214) rfl)) rfl
theorem wm_1_215 : (Jvm.Cond.code ({ cls := "Gridmender$Grid", name := "reshape", desc := "(II)V" } : Jvm.MethodName) prog_5_method_6_code (4 : Nat) (Option.none : Option Jvm.ClassFile.FieldType)) ∈ wAll := wAll_in (tb_1 (List.mem_of_getElem? (i := 215) rfl)) rfl
theorem wm_1_216 : (Jvm.Cond.methodLink "Gridmender$Grid" (22 : Nat) ({ cls := "java/lang/Math", name := "min", desc := "(II)I" } : Jvm.MethodName)) ∈ wAll := wAll_in (tb_1 (List.mem_of_getElem? (i := 216) rfl)) rfl
theorem wm_1_217 : (Jvm.Cond.static ({ cls := "java/lang/Math", name := "min", desc := "(II)I" } : Jvm.MethodName)) ∈ wAll := wAll_in (tb_1 (List.mem_of_getElem? (i := 217) rfl)) rfl
theorem wm_1_218 : (Jvm.Cond.code ({ cls := "java/lang/Math", name := "min", desc := "(II)I" } : Jvm.MethodName) prog_21_method_69_code (2 : Nat) (Option.some Jvm.ClassFile.FieldType.int)) ∈ wAll := wAll_in (tb_1 (List.mem_of_getElem? (i := 218) rfl)) rfl
theorem wm_1_219 : (Jvm.Cond.methodLink "Gridmender$Grid" (28 : Nat) ({ cls := "java/lang/Math", name := "max", desc := "(II)I" } : Jvm.MethodName)) ∈ wAll := wAll_in (tb_1 (List.mem_of_getElem? (i := 219) rfl)) rfl
theorem wm_1_220 : (Jvm.Cond.static ({ cls := "java/lang/Math", name := "max", desc := "(II)I" } : Jvm.MethodName)) ∈ wAll := wAll_in (tb_1 (List.mem_of_getElem? (i := 220) rfl)) rfl
theorem wm_1_221 : (Jvm.Cond.code ({ cls := "java/lang/Math", name := "max", desc := "(II)I" } : Jvm.MethodName) prog_21_method_65_code (2 : Nat) (Option.some Jvm.ClassFile.FieldType.int)) ∈ wAll := wAll_in (tb_1 (List.mem_of_getElem? (i := 221) rfl)) rfl
theorem wm_1_222 : (Jvm.Cond.methodLink "Gridmender$Grid" (35 : Nat) ({ cls := "Gridmender$Grid", name := "set", desc := "(IIJ)V" } : Jvm.MethodName)) ∈ wAll := wAll_in (tb_1 (List.mem_of_getElem? (i := 222) rfl)) rfl
theorem wm_1_223 : (Jvm.Cond.instanceMethod ({ cls := "Gridmender$Grid", name := "set", desc := "(IIJ)V" } : Jvm.MethodName)) ∈ wAll := wAll_in (tb_1 (List.mem_of_getElem? (i := 223) rfl)) rfl
theorem wm_1_224 : (Jvm.Cond.selects "Gridmender$Grid" ({ cls := "Gridmender$Grid", name := "set", desc := "(IIJ)V" } : Jvm.MethodName) ({ cls := "Gridmender$Grid", name := "set", desc := "(IIJ)V" } : Jvm.MethodName)) ∈ wAll := wAll_in (tb_1 (List.mem_of_getElem? (i := 224) rfl)) rfl
theorem wm_1_225 : (Jvm.Cond.code ({ cls := "Gridmender$Grid", name := "set", desc := "(IIJ)V" } : Jvm.MethodName) prog_5_method_3_code (5 : Nat) (Option.none : Option Jvm.ClassFile.FieldType)) ∈ wAll := wAll_in (tb_1 (List.mem_of_getElem? (i := 225) rfl)) rfl
theorem wm_1_226 : (Jvm.Cond.methodLink "Gridmender$RowSteps" (40 : Nat) ({ cls := "Gridmender$RowSteps", name := "clearColumn", desc := "(II)Z" } : Jvm.MethodName)) ∈ wAll := wAll_in (tb_1 (List.mem_of_getElem? (i := 226) rfl)) rfl
theorem wn_1_227 : (Jvm.Cond.privateMethod ({ cls := "Gridmender$RowSteps", name := "clearColumn", desc := "(II)Z" } : Jvm.MethodName)) ∈ wNest := wNest_in (tb_1 (List.mem_of_getElem? (i := 227) rfl)) rfl
theorem wm_1_228 : (Jvm.Cond.instanceMethod ({ cls := "Gridmender$RowSteps", name := "clearColumn", desc := "(II)Z" } : Jvm.MethodName)) ∈ wAll := wAll_in (tb_1 (List.mem_of_getElem? (i := 228) rfl)) rfl
theorem wm_1_229 : (Jvm.Cond.code ({ cls := "Gridmender$RowSteps", name := "clearColumn", desc := "(II)Z" } : Jvm.MethodName) prog_6_method_3_code (6 : Nat) (Option.some Jvm.ClassFile.FieldType.boolean)) ∈ wAll := wAll_in (tb_1 (List.mem_of_getElem? (i := 229) rfl)) rfl
theorem wm_1_230 : (Jvm.Cond.constant "Gridmender$RowSteps" (44 : Nat) (1000000 : Int32)) ∈ wAll := wAll_in (tb_1 (List.mem_of_getElem? (i := 230) rfl)) rfl
theorem wm_1_231 : (Jvm.Cond.methodLink "Gridmender$RowSteps" (45 : Nat) ({ cls := "Gridmender$RowSteps", name := "findLeastRow", desc := "(II)I" } : Jvm.MethodName)) ∈ wAll := wAll_in (tb_1 (List.mem_of_getElem? (i := 231) rfl)) rfl
theorem wn_1_232 : (Jvm.Cond.privateMethod ({ cls := "Gridmender$RowSteps", name := "findLeastRow", desc := "(II)I" } : Jvm.MethodName)) ∈ wNest := wNest_in (tb_1 (List.mem_of_getElem? (i := 232) rfl)) rfl
theorem wm_1_233 : (Jvm.Cond.instanceMethod ({ cls := "Gridmender$RowSteps", name := "findLeastRow", desc := "(II)I" } : Jvm.MethodName)) ∈ wAll := wAll_in (tb_1 (List.mem_of_getElem? (i := 233) rfl)) rfl
theorem wm_1_234 : (Jvm.Cond.code ({ cls := "Gridmender$RowSteps", name := "findLeastRow", desc := "(II)I" } : Jvm.MethodName) prog_6_method_4_code (7 : Nat) (Option.some Jvm.ClassFile.FieldType.int)) ∈ wAll := wAll_in (tb_1 (List.mem_of_getElem? (i := 234) rfl)) rfl
theorem wm_1_235 : (Jvm.Cond.methodLink "Gridmender$RowSteps" (59 : Nat) ({ cls := "Gridmender$Grid", name := "get", desc := "(II)J" } : Jvm.MethodName)) ∈ wAll := wAll_in (tb_1 (List.mem_of_getElem? (i := 235) rfl)) rfl
theorem wm_1_236 : (Jvm.Cond.methodLink "Gridmender$RowSteps" (63 : Nat) ({ cls := "java/lang/Math", name := "abs", desc := "(J)J" } : Jvm.MethodName)) ∈ wAll := wAll_in (tb_1 (List.mem_of_getElem? (i := 236) rfl)) rfl
theorem wm_1_237 : (Jvm.Cond.static ({ cls := "java/lang/Math", name := "abs", desc := "(J)J" } : Jvm.MethodName)) ∈ wAll := wAll_in (tb_1 (List.mem_of_getElem? (i := 237) rfl)) rfl
theorem wm_1_238 : (Jvm.Cond.code ({ cls := "java/lang/Math", name := "abs", desc := "(J)J" } : Jvm.MethodName) prog_21_method_61_code (2 : Nat) (Option.some Jvm.ClassFile.FieldType.long)) ∈ wAll := wAll_in (tb_1 (List.mem_of_getElem? (i := 238) rfl)) rfl
theorem wm_1_239 : (Jvm.Cond.methodLink "Gridmender$RowSteps" (49 : Nat) ({ cls := "Gridmender$RowSteps", name := "bring", desc := "(III)V" } : Jvm.MethodName)) ∈ wAll := wAll_in (tb_1 (List.mem_of_getElem? (i := 239) rfl)) rfl
theorem wn_2_0 : (Jvm.Cond.privateMethod ({ cls := "Gridmender$RowSteps", name := "bring", desc := "(III)V" } : Jvm.MethodName)) ∈ wNest := wNest_in (tb_2 (List.mem_of_getElem? (i := 0) rfl)) rfl
theorem wm_2_1 : (Jvm.Cond.instanceMethod ({ cls := "Gridmender$RowSteps", name := "bring", desc := "(III)V" } : Jvm.MethodName)) ∈ wAll := wAll_in (tb_2 (List.mem_of_getElem? (i := 1) rfl)) rfl
theorem wm_2_2 : (Jvm.Cond.code ({ cls := "Gridmender$RowSteps", name := "bring", desc := "(III)V" } : Jvm.MethodName) prog_6_method_5_code (4 : Nat) (Option.none : Option Jvm.ClassFile.FieldType)) ∈ wAll := wAll_in (tb_2 (List.mem_of_getElem? (i := 2) rfl)) rfl
theorem wm_2_3 : (Jvm.Cond.methodLink "Gridmender$RowSteps" (69 : Nat) ({ cls := "Gridmender$Grid", name := "exchangeLines", desc := "(ZII)V" } : Jvm.MethodName)) ∈ wAll := wAll_in (tb_2 (List.mem_of_getElem? (i := 3) rfl)) rfl
theorem wm_2_4 : (Jvm.Cond.instanceMethod ({ cls := "Gridmender$Grid", name := "exchangeLines", desc := "(ZII)V" } : Jvm.MethodName)) ∈ wAll := wAll_in (tb_2 (List.mem_of_getElem? (i := 4) rfl)) rfl
theorem wm_2_5 : (Jvm.Cond.selects "Gridmender$Grid" ({ cls := "Gridmender$Grid", name := "exchangeLines", desc := "(ZII)V" } : Jvm.MethodName) ({ cls := "Gridmender$Grid", name := "exchangeLines", desc := "(ZII)V" } : Jvm.MethodName)) ∈ wAll := wAll_in (tb_2 (List.mem_of_getElem? (i := 5) rfl)) rfl
theorem wm_2_6 : (Jvm.Cond.code ({ cls := "Gridmender$Grid", name := "exchangeLines", desc := "(ZII)V" } : Jvm.MethodName) prog_5_method_12_code (8 : Nat) (Option.none : Option Jvm.ClassFile.FieldType)) ∈ wAll := wAll_in (tb_2 (List.mem_of_getElem? (i := 6) rfl)) rfl
theorem wm_2_7 : (Jvm.Cond.methodLink "Gridmender$Grid" (39 : Nat) ({ cls := "Gridmender$Grid", name := "get", desc := "(II)J" } : Jvm.MethodName)) ∈ wAll := wAll_in (tb_2 (List.mem_of_getElem? (i := 7) rfl)) rfl
theorem wm_2_8 : (Jvm.Cond.methodLink "Gridmender$RowSteps" (73 : Nat) ({ cls := "Gridmender$Grid", name := "turnLine", desc := "(ZI)V" } : Jvm.MethodName)) ∈ wAll := wAll_in (tb_2 (List.mem_of_getElem? (i := 8) rfl)) rfl
theorem wm_2_9 : (Jvm.Cond.instanceMethod ({ cls := "Gridmender$Grid", name := "turnLine", desc := "(ZI)V" } : Jvm.MethodName)) ∈ wAll := wAll_in (tb_2 (List.mem_of_getElem? (i := 9) rfl)) rfl
theorem wm_2_10 : (Jvm.Cond.selects "Gridmender$Grid" ({ cls := "Gridmender$Grid", name := "turnLine", desc := "(ZI)V" } : Jvm.MethodName) ({ cls := "Gridmender$Grid", name := "turnLine", desc := "(ZI)V" } : Jvm.MethodName)) ∈ wAll := wAll_in (tb_2 (List.mem_of_getElem? (i := 10) rfl)) rfl
theorem wm_2_11 : (Jvm.Cond.code ({ cls := "Gridmender$Grid", name := "turnLine", desc := "(ZI)V" } : Jvm.MethodName) prog_5_method_13_code (5 : Nat) (Option.none : Option Jvm.ClassFile.FieldType)) ∈ wAll := wAll_in (tb_2 (List.mem_of_getElem? (i := 11) rfl)) rfl
theorem wm_2_12 : (Jvm.Cond.methodLink "Gridmender$RowSteps" (53 : Nat) ({ cls := "Gridmender$RowSteps", name := "takeOff", desc := "(III)V" } : Jvm.MethodName)) ∈ wAll := wAll_in (tb_2 (List.mem_of_getElem? (i := 12) rfl)) rfl
theorem wn_2_13 : (Jvm.Cond.privateMethod ({ cls := "Gridmender$RowSteps", name := "takeOff", desc := "(III)V" } : Jvm.MethodName)) ∈ wNest := wNest_in (tb_2 (List.mem_of_getElem? (i := 13) rfl)) rfl
theorem wm_2_14 : (Jvm.Cond.instanceMethod ({ cls := "Gridmender$RowSteps", name := "takeOff", desc := "(III)V" } : Jvm.MethodName)) ∈ wAll := wAll_in (tb_2 (List.mem_of_getElem? (i := 14) rfl)) rfl
theorem wm_2_15 : (Jvm.Cond.code ({ cls := "Gridmender$RowSteps", name := "takeOff", desc := "(III)V" } : Jvm.MethodName) prog_6_method_6_code (6 : Nat) (Option.none : Option Jvm.ClassFile.FieldType)) ∈ wAll := wAll_in (tb_2 (List.mem_of_getElem? (i := 15) rfl)) rfl
theorem wn_2_16 : (Jvm.Cond.methodLinkNest "Gridmender$RowSteps" (77 : Nat) ({ cls := "Gridmender", name := "divideDown", desc := "(JJ)J" } : Jvm.MethodName) "Gridmender") ∈ wNest := wNest_in (tb_2 (List.mem_of_getElem? (i := 16) rfl)) rfl
theorem wm_2_17 : (Jvm.Cond.static ({ cls := "Gridmender", name := "divideDown", desc := "(JJ)J" } : Jvm.MethodName)) ∈ wAll := wAll_in (tb_2 (List.mem_of_getElem? (i := 17) rfl)) rfl
theorem wm_2_18 : (Jvm.Cond.code ({ cls := "Gridmender", name := "divideDown", desc := "(JJ)J" } : Jvm.MethodName) prog_1_method_55_code (4 : Nat) (Option.some Jvm.ClassFile.FieldType.long)) ∈ wAll := wAll_in (tb_2 (List.mem_of_getElem? (i := 18) rfl)) rfl
theorem wm_2_19 : (Jvm.Cond.methodLink "Gridmender" (316 : Nat) ({ cls := "java/lang/Math", name := "floorDiv", desc := "(JJ)J" } : Jvm.MethodName)) ∈ wAll := wAll_in (tb_2 (List.mem_of_getElem? (i := 19) rfl)) rfl
theorem wm_2_20 : (Jvm.Cond.static ({ cls := "java/lang/Math", name := "floorDiv", desc := "(JJ)J" } : Jvm.MethodName)) ∈ wAll := wAll_in (tb_2 (List.mem_of_getElem? (i := 20) rfl)) rfl
theorem wm_2_21 : (Jvm.Cond.code ({ cls := "java/lang/Math", name := "floorDiv", desc := "(JJ)J" } : Jvm.MethodName) prog_21_method_49_code (6 : Nat) (Option.some Jvm.ClassFile.FieldType.long)) ∈ wAll := wAll_in (tb_2 (List.mem_of_getElem? (i := 21) rfl)) rfl
theorem wm_2_22 : (Jvm.Cond.methodLink "Gridmender$RowSteps" (81 : Nat) ({ cls := "Gridmender$Grid", name := "addLine", desc := "(ZIIJ)V" } : Jvm.MethodName)) ∈ wAll := wAll_in (tb_2 (List.mem_of_getElem? (i := 22) rfl)) rfl
theorem wm_2_23 : (Jvm.Cond.instanceMethod ({ cls := "Gridmender$Grid", name := "addLine", desc := "(ZIIJ)V" } : Jvm.MethodName)) ∈ wAll := wAll_in (tb_2 (List.mem_of_getElem? (i := 23) rfl)) rfl
theorem wm_2_24 : (Jvm.Cond.selects "Gridmender$Grid" ({ cls := "Gridmender$Grid", name := "addLine", desc := "(ZIIJ)V" } : Jvm.MethodName) ({ cls := "Gridmender$Grid", name := "addLine", desc := "(ZIIJ)V" } : Jvm.MethodName)) ∈ wAll := wAll_in (tb_2 (List.mem_of_getElem? (i := 24) rfl)) rfl
theorem wm_2_25 : (Jvm.Cond.code ({ cls := "Gridmender$Grid", name := "addLine", desc := "(ZIIJ)V" } : Jvm.MethodName) prog_5_method_14_code (8 : Nat) (Option.none : Option Jvm.ClassFile.FieldType)) ∈ wAll := wAll_in (tb_2 (List.mem_of_getElem? (i := 25) rfl)) rfl
theorem wm_2_26 : (Jvm.Cond.constantLong "Gridmender$RowSteps" (85 : Nat) (1000000000 : Int64)) ∈ wAll := wAll_in (tb_2 (List.mem_of_getElem? (i := 26) rfl)) rfl
theorem wm_2_27 : (Jvm.Cond.methodLink "Gridmender$RowSteps" (87 : Nat) ({ cls := "Gridmender$Grid", name := "isWithin", desc := "(J)Z" } : Jvm.MethodName)) ∈ wAll := wAll_in (tb_2 (List.mem_of_getElem? (i := 27) rfl)) rfl
theorem wm_2_28 : (Jvm.Cond.instanceMethod ({ cls := "Gridmender$Grid", name := "isWithin", desc := "(J)Z" } : Jvm.MethodName)) ∈ wAll := wAll_in (tb_2 (List.mem_of_getElem? (i := 28) rfl)) rfl
theorem wm_2_29 : (Jvm.Cond.selects "Gridmender$Grid" ({ cls := "Gridmender$Grid", name := "isWithin", desc := "(J)Z" } : Jvm.MethodName) ({ cls := "Gridmender$Grid", name := "isWithin", desc := "(J)Z" } : Jvm.MethodName)) ∈ wAll := wAll_in (tb_2 (List.mem_of_getElem? (i := 29) rfl)) rfl
theorem wm_2_30 : (Jvm.Cond.code ({ cls := "Gridmender$Grid", name := "isWithin", desc := "(J)Z" } : Jvm.MethodName) prog_5_method_18_code (5 : Nat) (Option.some Jvm.ClassFile.FieldType.boolean)) ∈ wAll := wAll_in (tb_2 (List.mem_of_getElem? (i := 30) rfl)) rfl
theorem wm_2_31 : (Jvm.Cond.methodLink "Gridmender$Grid" (47 : Nat) ({ cls := "java/lang/Math", name := "abs", desc := "(J)J" } : Jvm.MethodName)) ∈ wAll := wAll_in (tb_2 (List.mem_of_getElem? (i := 31) rfl)) rfl
theorem wm_2_32 : (Jvm.Cond.methodLink "Gridmender$RowSteps" (56 : Nat) ({ cls := "Gridmender$RowSteps", name := "isClearBelow", desc := "(II)Z" } : Jvm.MethodName)) ∈ wAll := wAll_in (tb_2 (List.mem_of_getElem? (i := 32) rfl)) rfl
theorem wn_2_33 : (Jvm.Cond.privateMethod ({ cls := "Gridmender$RowSteps", name := "isClearBelow", desc := "(II)Z" } : Jvm.MethodName)) ∈ wNest := wNest_in (tb_2 (List.mem_of_getElem? (i := 33) rfl)) rfl
theorem wm_2_34 : (Jvm.Cond.instanceMethod ({ cls := "Gridmender$RowSteps", name := "isClearBelow", desc := "(II)Z" } : Jvm.MethodName)) ∈ wAll := wAll_in (tb_2 (List.mem_of_getElem? (i := 34) rfl)) rfl
theorem wm_2_35 : (Jvm.Cond.code ({ cls := "Gridmender$RowSteps", name := "isClearBelow", desc := "(II)Z" } : Jvm.MethodName) prog_6_method_7_code (4 : Nat) (Option.some Jvm.ClassFile.FieldType.boolean)) ∈ wAll := wAll_in (tb_2 (List.mem_of_getElem? (i := 35) rfl)) rfl
theorem wm_2_36 : (Jvm.Cond.methodLink "Gridmender" (310 : Nat) ({ cls := "Gridmender", name := "isSoundByRowSteps", desc := "(LGridmender$Grid;)Z" } : Jvm.MethodName)) ∈ wAll := wAll_in (tb_2 (List.mem_of_getElem? (i := 36) rfl)) rfl
theorem wn_2_37 : (Jvm.Cond.privateMethod ({ cls := "Gridmender", name := "isSoundByRowSteps", desc := "(LGridmender$Grid;)Z" } : Jvm.MethodName)) ∈ wNest := wNest_in (tb_2 (List.mem_of_getElem? (i := 37) rfl)) rfl
theorem wm_2_38 : (Jvm.Cond.instanceMethod ({ cls := "Gridmender", name := "isSoundByRowSteps", desc := "(LGridmender$Grid;)Z" } : Jvm.MethodName)) ∈ wAll := wAll_in (tb_2 (List.mem_of_getElem? (i := 38) rfl)) rfl
theorem wm_2_39 : (Jvm.Cond.code ({ cls := "Gridmender", name := "isSoundByRowSteps", desc := "(LGridmender$Grid;)Z" } : Jvm.MethodName) prog_1_method_53_code (2 : Nat) (Option.some Jvm.ClassFile.FieldType.boolean)) ∈ wAll := wAll_in (tb_2 (List.mem_of_getElem? (i := 39) rfl)) rfl
theorem wm_2_40 : (Jvm.Cond.methodLink "Gridmender" (142 : Nat) ({ cls := "Gridmender$Grid", name := "becomeProduct", desc := "(LGridmender$Grid;LGridmender$Grid;)V" } : Jvm.MethodName)) ∈ wAll := wAll_in (tb_2 (List.mem_of_getElem? (i := 40) rfl)) rfl
theorem wm_2_41 : (Jvm.Cond.instanceMethod ({ cls := "Gridmender$Grid", name := "becomeProduct", desc := "(LGridmender$Grid;LGridmender$Grid;)V" } : Jvm.MethodName)) ∈ wAll := wAll_in (tb_2 (List.mem_of_getElem? (i := 41) rfl)) rfl
theorem wm_2_42 : (Jvm.Cond.selects "Gridmender$Grid" ({ cls := "Gridmender$Grid", name := "becomeProduct", desc := "(LGridmender$Grid;LGridmender$Grid;)V" } : Jvm.MethodName) ({ cls := "Gridmender$Grid", name := "becomeProduct", desc := "(LGridmender$Grid;LGridmender$Grid;)V" } : Jvm.MethodName)) ∈ wAll := wAll_in (tb_2 (List.mem_of_getElem? (i := 42) rfl)) rfl
theorem wm_2_43 : (Jvm.Cond.code ({ cls := "Gridmender$Grid", name := "becomeProduct", desc := "(LGridmender$Grid;LGridmender$Grid;)V" } : Jvm.MethodName) prog_5_method_11_code (8 : Nat) (Option.none : Option Jvm.ClassFile.FieldType)) ∈ wAll := wAll_in (tb_2 (List.mem_of_getElem? (i := 43) rfl)) rfl
theorem wm_2_44 : (Jvm.Cond.methodLink "Gridmender" (104 : Nat) ({ cls := "Gridmender$Grid", name := "isLike", desc := "(LGridmender$Grid;)Z" } : Jvm.MethodName)) ∈ wAll := wAll_in (tb_2 (List.mem_of_getElem? (i := 44) rfl)) rfl
theorem wm_2_45 : (Jvm.Cond.instanceMethod ({ cls := "Gridmender$Grid", name := "isLike", desc := "(LGridmender$Grid;)Z" } : Jvm.MethodName)) ∈ wAll := wAll_in (tb_2 (List.mem_of_getElem? (i := 45) rfl)) rfl
theorem wm_2_46 : (Jvm.Cond.selects "Gridmender$Grid" ({ cls := "Gridmender$Grid", name := "isLike", desc := "(LGridmender$Grid;)Z" } : Jvm.MethodName) ({ cls := "Gridmender$Grid", name := "isLike", desc := "(LGridmender$Grid;)Z" } : Jvm.MethodName)) ∈ wAll := wAll_in (tb_2 (List.mem_of_getElem? (i := 46) rfl)) rfl
theorem wm_2_47 : (Jvm.Cond.code ({ cls := "Gridmender$Grid", name := "isLike", desc := "(LGridmender$Grid;)Z" } : Jvm.MethodName) prog_5_method_17_code (2 : Nat) (Option.some Jvm.ClassFile.FieldType.boolean)) ∈ wAll := wAll_in (tb_2 (List.mem_of_getElem? (i := 47) rfl)) rfl
theorem wm_2_48 : (Jvm.Cond.methodLink "Gridmender$Grid" (43 : Nat) ({ cls := "Gridmender$Grid", name := "countUnlike", desc := "(LGridmender$Grid;)I" } : Jvm.MethodName)) ∈ wAll := wAll_in (tb_2 (List.mem_of_getElem? (i := 48) rfl)) rfl
theorem wm_2_49 : (Jvm.Cond.instanceMethod ({ cls := "Gridmender$Grid", name := "countUnlike", desc := "(LGridmender$Grid;)I" } : Jvm.MethodName)) ∈ wAll := wAll_in (tb_2 (List.mem_of_getElem? (i := 49) rfl)) rfl
theorem wm_2_50 : (Jvm.Cond.selects "Gridmender$Grid" ({ cls := "Gridmender$Grid", name := "countUnlike", desc := "(LGridmender$Grid;)I" } : Jvm.MethodName) ({ cls := "Gridmender$Grid", name := "countUnlike", desc := "(LGridmender$Grid;)I" } : Jvm.MethodName)) ∈ wAll := wAll_in (tb_2 (List.mem_of_getElem? (i := 50) rfl)) rfl
theorem wm_2_51 : (Jvm.Cond.code ({ cls := "Gridmender$Grid", name := "countUnlike", desc := "(LGridmender$Grid;)I" } : Jvm.MethodName) prog_5_method_16_code (5 : Nat) (Option.some Jvm.ClassFile.FieldType.int)) ∈ wAll := wAll_in (tb_2 (List.mem_of_getElem? (i := 51) rfl)) rfl
theorem wm_2_52 : (Jvm.Cond.methodLink "Gridmender" (217 : Nat) ({ cls := "Gridmender$Determinants", name := "findRank", desc := "(LGridmender$Grid;)I" } : Jvm.MethodName)) ∈ wAll := wAll_in (tb_2 (List.mem_of_getElem? (i := 52) rfl)) rfl
theorem wm_2_53 : (Jvm.Cond.static ({ cls := "Gridmender$Determinants", name := "findRank", desc := "(LGridmender$Grid;)I" } : Jvm.MethodName)) ∈ wAll := wAll_in (tb_2 (List.mem_of_getElem? (i := 53) rfl)) rfl
theorem wm_2_54 : (Jvm.Cond.code ({ cls := "Gridmender$Determinants", name := "findRank", desc := "(LGridmender$Grid;)I" } : Jvm.MethodName) prog_2_method_6_code (3 : Nat) (Option.some Jvm.ClassFile.FieldType.int)) ∈ wAll := wAll_in (tb_2 (List.mem_of_getElem? (i := 54) rfl)) rfl
theorem wm_2_55 : (Jvm.Cond.methodLink "Gridmender$Determinants" (42 : Nat) ({ cls := "Gridmender$Determinants", name := "findDivisor", desc := "(LGridmender$Grid;I)J" } : Jvm.MethodName)) ∈ wAll := wAll_in (tb_2 (List.mem_of_getElem? (i := 55) rfl)) rfl
theorem wm_2_56 : (Jvm.Cond.static ({ cls := "Gridmender$Determinants", name := "findDivisor", desc := "(LGridmender$Grid;I)J" } : Jvm.MethodName)) ∈ wAll := wAll_in (tb_2 (List.mem_of_getElem? (i := 56) rfl)) rfl
theorem wm_2_57 : (Jvm.Cond.code ({ cls := "Gridmender$Determinants", name := "findDivisor", desc := "(LGridmender$Grid;I)J" } : Jvm.MethodName) prog_2_method_5_code (7 : Nat) (Option.some Jvm.ClassFile.FieldType.long)) ∈ wAll := wAll_in (tb_2 (List.mem_of_getElem? (i := 57) rfl)) rfl
theorem wn_2_58 : (Jvm.Cond.methodLinkNest "Gridmender$Determinants" (38 : Nat) ({ cls := "Gridmender", name := "greatestCommonDivisor", desc := "(JJ)J" } : Jvm.MethodName) "Gridmender") ∈ wNest := wNest_in (tb_2 (List.mem_of_getElem? (i := 58) rfl)) rfl
theorem wm_2_59 : (Jvm.Cond.static ({ cls := "Gridmender", name := "greatestCommonDivisor", desc := "(JJ)J" } : Jvm.MethodName)) ∈ wAll := wAll_in (tb_2 (List.mem_of_getElem? (i := 59) rfl)) rfl
theorem wm_2_60 : (Jvm.Cond.code ({ cls := "Gridmender", name := "greatestCommonDivisor", desc := "(JJ)J" } : Jvm.MethodName) prog_1_method_58_code (11 : Nat) (Option.some Jvm.ClassFile.FieldType.long)) ∈ wAll := wAll_in (tb_2 (List.mem_of_getElem? (i := 60) rfl)) rfl
theorem wm_2_61 : (Jvm.Cond.methodLink "Gridmender" (324 : Nat) ({ cls := "java/lang/Math", name := "abs", desc := "(J)J" } : Jvm.MethodName)) ∈ wAll := wAll_in (tb_2 (List.mem_of_getElem? (i := 61) rfl)) rfl
theorem wm_2_62 : (Jvm.Cond.constant "Gridmender" (327 : Nat) (1000000 : Int32)) ∈ wAll := wAll_in (tb_2 (List.mem_of_getElem? (i := 62) rfl)) rfl
theorem wm_2_63 : (Jvm.Cond.methodLink "Gridmender" (220 : Nat) ({ cls := "Gridmender$RowSteps", name := "countFilledRows", desc := "()I" } : Jvm.MethodName)) ∈ wAll := wAll_in (tb_2 (List.mem_of_getElem? (i := 63) rfl)) rfl
theorem wm_2_64 : (Jvm.Cond.instanceMethod ({ cls := "Gridmender$RowSteps", name := "countFilledRows", desc := "()I" } : Jvm.MethodName)) ∈ wAll := wAll_in (tb_2 (List.mem_of_getElem? (i := 64) rfl)) rfl
theorem wm_2_65 : (Jvm.Cond.selects "Gridmender$RowSteps" ({ cls := "Gridmender$RowSteps", name := "countFilledRows", desc := "()I" } : Jvm.MethodName) ({ cls := "Gridmender$RowSteps", name := "countFilledRows", desc := "()I" } : Jvm.MethodName)) ∈ wAll := wAll_in (tb_2 (List.mem_of_getElem? (i := 65) rfl)) rfl
theorem wm_2_66 : (Jvm.Cond.code ({ cls := "Gridmender$RowSteps", name := "countFilledRows", desc := "()I" } : Jvm.MethodName) prog_6_method_8_code (5 : Nat) (Option.some Jvm.ClassFile.FieldType.int)) ∈ wAll := wAll_in (tb_2 (List.mem_of_getElem? (i := 66) rfl)) rfl
theorem wm_2_67 : (Jvm.Cond.methodLink "Gridmender" (200 : Nat) ({ cls := "Gridmender$RowSteps", name := "findDeterminant", desc := "()J" } : Jvm.MethodName)) ∈ wAll := wAll_in (tb_2 (List.mem_of_getElem? (i := 67) rfl)) rfl
theorem wm_2_68 : (Jvm.Cond.instanceMethod ({ cls := "Gridmender$RowSteps", name := "findDeterminant", desc := "()J" } : Jvm.MethodName)) ∈ wAll := wAll_in (tb_2 (List.mem_of_getElem? (i := 68) rfl)) rfl
theorem wm_2_69 : (Jvm.Cond.selects "Gridmender$RowSteps" ({ cls := "Gridmender$RowSteps", name := "findDeterminant", desc := "()J" } : Jvm.MethodName) ({ cls := "Gridmender$RowSteps", name := "findDeterminant", desc := "()J" } : Jvm.MethodName)) ∈ wAll := wAll_in (tb_2 (List.mem_of_getElem? (i := 69) rfl)) rfl
theorem wm_2_70 : (Jvm.Cond.code ({ cls := "Gridmender$RowSteps", name := "findDeterminant", desc := "()J" } : Jvm.MethodName) prog_6_method_9_code (4 : Nat) (Option.some Jvm.ClassFile.FieldType.long)) ∈ wAll := wAll_in (tb_2 (List.mem_of_getElem? (i := 70) rfl)) rfl
theorem wm_2_71 : (Jvm.Cond.methodLink "Gridmender$RowSteps" (91 : Nat) ({ cls := "Gridmender$Determinants", name := "byFirstRow", desc := "(LGridmender$Grid;)J" } : Jvm.MethodName)) ∈ wAll := wAll_in (tb_2 (List.mem_of_getElem? (i := 71) rfl)) rfl
theorem wm_2_72 : (Jvm.Cond.methodLink "Gridmender" (153 : Nat) ({ cls := "Gridmender$DiagonalSteps", name := "walk", desc := "(LGridmender$Grid;)V" } : Jvm.MethodName)) ∈ wAll := wAll_in (tb_2 (List.mem_of_getElem? (i := 72) rfl)) rfl
theorem wm_2_73 : (Jvm.Cond.instanceMethod ({ cls := "Gridmender$DiagonalSteps", name := "walk", desc := "(LGridmender$Grid;)V" } : Jvm.MethodName)) ∈ wAll := wAll_in (tb_2 (List.mem_of_getElem? (i := 73) rfl)) rfl
theorem wm_2_74 : (Jvm.Cond.selects "Gridmender$DiagonalSteps" ({ cls := "Gridmender$DiagonalSteps", name := "walk", desc := "(LGridmender$Grid;)V" } : Jvm.MethodName) ({ cls := "Gridmender$DiagonalSteps", name := "walk", desc := "(LGridmender$Grid;)V" } : Jvm.MethodName)) ∈ wAll := wAll_in (tb_2 (List.mem_of_getElem? (i := 74) rfl)) rfl
theorem wm_2_75 : (Jvm.Cond.code ({ cls := "Gridmender$DiagonalSteps", name := "walk", desc := "(LGridmender$Grid;)V" } : Jvm.MethodName) prog_3_method_2_code (4 : Nat) (Option.none : Option Jvm.ClassFile.FieldType)) ∈ wAll := wAll_in (tb_2 (List.mem_of_getElem? (i := 75) rfl)) rfl
theorem wm_2_76 : (Jvm.Cond.methodLink "Gridmender$DiagonalSteps" (24 : Nat) ({ cls := "Gridmender$Grid", name := "becomeLike", desc := "(LGridmender$Grid;)V" } : Jvm.MethodName)) ∈ wAll := wAll_in (tb_2 (List.mem_of_getElem? (i := 76) rfl)) rfl
theorem wm_2_77 : (Jvm.Cond.methodLink "Gridmender$DiagonalSteps" (32 : Nat) ({ cls := "Gridmender$Grid", name := "becomeUnit", desc := "(I)V" } : Jvm.MethodName)) ∈ wAll := wAll_in (tb_2 (List.mem_of_getElem? (i := 77) rfl)) rfl
theorem wm_2_78 : (Jvm.Cond.methodLink "Gridmender$DiagonalSteps" (43 : Nat) ({ cls := "Gridmender$DiagonalSteps", name := "clearCross", desc := "(I)Z" } : Jvm.MethodName)) ∈ wAll := wAll_in (tb_2 (List.mem_of_getElem? (i := 78) rfl)) rfl
theorem wn_2_79 : (Jvm.Cond.privateMethod ({ cls := "Gridmender$DiagonalSteps", name := "clearCross", desc := "(I)Z" } : Jvm.MethodName)) ∈ wNest := wNest_in (tb_2 (List.mem_of_getElem? (i := 79) rfl)) rfl
theorem wm_2_80 : (Jvm.Cond.instanceMethod ({ cls := "Gridmender$DiagonalSteps", name := "clearCross", desc := "(I)Z" } : Jvm.MethodName)) ∈ wAll := wAll_in (tb_2 (List.mem_of_getElem? (i := 80) rfl)) rfl
theorem wm_2_81 : (Jvm.Cond.code ({ cls := "Gridmender$DiagonalSteps", name := "clearCross", desc := "(I)Z" } : Jvm.MethodName) prog_3_method_3_code (5 : Nat) (Option.some Jvm.ClassFile.FieldType.boolean)) ∈ wAll := wAll_in (tb_2 (List.mem_of_getElem? (i := 81) rfl)) rfl
theorem wm_2_82 : (Jvm.Cond.constant "Gridmender$DiagonalSteps" (47 : Nat) (1000000 : Int32)) ∈ wAll := wAll_in (tb_2 (List.mem_of_getElem? (i := 82) rfl)) rfl
theorem wm_2_83 : (Jvm.Cond.methodLink "Gridmender$DiagonalSteps" (48 : Nat) ({ cls := "Gridmender$DiagonalSteps", name := "findLeastPlace", desc := "(I)I" } : Jvm.MethodName)) ∈ wAll := wAll_in (tb_2 (List.mem_of_getElem? (i := 83) rfl)) rfl
theorem wn_2_84 : (Jvm.Cond.privateMethod ({ cls := "Gridmender$DiagonalSteps", name := "findLeastPlace", desc := "(I)I" } : Jvm.MethodName)) ∈ wNest := wNest_in (tb_2 (List.mem_of_getElem? (i := 84) rfl)) rfl
theorem wm_2_85 : (Jvm.Cond.instanceMethod ({ cls := "Gridmender$DiagonalSteps", name := "findLeastPlace", desc := "(I)I" } : Jvm.MethodName)) ∈ wAll := wAll_in (tb_2 (List.mem_of_getElem? (i := 85) rfl)) rfl
theorem wm_2_86 : (Jvm.Cond.code ({ cls := "Gridmender$DiagonalSteps", name := "findLeastPlace", desc := "(I)I" } : Jvm.MethodName) prog_3_method_4_code (9 : Nat) (Option.some Jvm.ClassFile.FieldType.int)) ∈ wAll := wAll_in (tb_2 (List.mem_of_getElem? (i := 86) rfl)) rfl
theorem wm_2_87 : (Jvm.Cond.methodLink "Gridmender$DiagonalSteps" (56 : Nat) ({ cls := "Gridmender$Grid", name := "get", desc := "(II)J" } : Jvm.MethodName)) ∈ wAll := wAll_in (tb_2 (List.mem_of_getElem? (i := 87) rfl)) rfl
theorem wm_2_88 : (Jvm.Cond.methodLink "Gridmender$DiagonalSteps" (77 : Nat) ({ cls := "java/lang/Math", name := "abs", desc := "(J)J" } : Jvm.MethodName)) ∈ wAll := wAll_in (tb_2 (List.mem_of_getElem? (i := 88) rfl)) rfl
theorem wm_2_89 : (Jvm.Cond.methodLink "Gridmender$DiagonalSteps" (52 : Nat) ({ cls := "Gridmender$DiagonalSteps", name := "bring", desc := "(III)V" } : Jvm.MethodName)) ∈ wAll := wAll_in (tb_2 (List.mem_of_getElem? (i := 89) rfl)) rfl
theorem wn_2_90 : (Jvm.Cond.privateMethod ({ cls := "Gridmender$DiagonalSteps", name := "bring", desc := "(III)V" } : Jvm.MethodName)) ∈ wNest := wNest_in (tb_2 (List.mem_of_getElem? (i := 90) rfl)) rfl
theorem wm_2_91 : (Jvm.Cond.instanceMethod ({ cls := "Gridmender$DiagonalSteps", name := "bring", desc := "(III)V" } : Jvm.MethodName)) ∈ wAll := wAll_in (tb_2 (List.mem_of_getElem? (i := 91) rfl)) rfl
theorem wm_2_92 : (Jvm.Cond.code ({ cls := "Gridmender$DiagonalSteps", name := "bring", desc := "(III)V" } : Jvm.MethodName) prog_3_method_5_code (4 : Nat) (Option.none : Option Jvm.ClassFile.FieldType)) ∈ wAll := wAll_in (tb_2 (List.mem_of_getElem? (i := 92) rfl)) rfl
theorem wm_2_93 : (Jvm.Cond.methodLink "Gridmender$DiagonalSteps" (83 : Nat) ({ cls := "Gridmender$Grid", name := "exchangeLines", desc := "(ZII)V" } : Jvm.MethodName)) ∈ wAll := wAll_in (tb_2 (List.mem_of_getElem? (i := 93) rfl)) rfl
theorem wm_2_94 : (Jvm.Cond.methodLink "Gridmender$DiagonalSteps" (87 : Nat) ({ cls := "Gridmender$Grid", name := "turnLine", desc := "(ZI)V" } : Jvm.MethodName)) ∈ wAll := wAll_in (tb_2 (List.mem_of_getElem? (i := 94) rfl)) rfl
theorem wn_2_95 : (Jvm.Cond.methodLinkNest "Gridmender$DiagonalSteps" (60 : Nat) ({ cls := "Gridmender", name := "divideDown", desc := "(JJ)J" } : Jvm.MethodName) "Gridmender") ∈ wNest := wNest_in (tb_2 (List.mem_of_getElem? (i := 95) rfl)) rfl
theorem wm_2_96 : (Jvm.Cond.methodLink "Gridmender$DiagonalSteps" (64 : Nat) ({ cls := "Gridmender$DiagonalSteps", name := "addRow", desc := "(IIJ)V" } : Jvm.MethodName)) ∈ wAll := wAll_in (tb_2 (List.mem_of_getElem? (i := 96) rfl)) rfl
theorem wn_2_97 : (Jvm.Cond.privateMethod ({ cls := "Gridmender$DiagonalSteps", name := "addRow", desc := "(IIJ)V" } : Jvm.MethodName)) ∈ wNest := wNest_in (tb_2 (List.mem_of_getElem? (i := 97) rfl)) rfl
theorem wm_2_98 : (Jvm.Cond.instanceMethod ({ cls := "Gridmender$DiagonalSteps", name := "addRow", desc := "(IIJ)V" } : Jvm.MethodName)) ∈ wAll := wAll_in (tb_2 (List.mem_of_getElem? (i := 98) rfl)) rfl
theorem wm_2_99 : (Jvm.Cond.code ({ cls := "Gridmender$DiagonalSteps", name := "addRow", desc := "(IIJ)V" } : Jvm.MethodName) prog_3_method_6_code (5 : Nat) (Option.none : Option Jvm.ClassFile.FieldType)) ∈ wAll := wAll_in (tb_2 (List.mem_of_getElem? (i := 99) rfl)) rfl
theorem wm_2_100 : (Jvm.Cond.methodLink "Gridmender$DiagonalSteps" (91 : Nat) ({ cls := "Gridmender$Grid", name := "addLine", desc := "(ZIIJ)V" } : Jvm.MethodName)) ∈ wAll := wAll_in (tb_2 (List.mem_of_getElem? (i := 100) rfl)) rfl
theorem wm_2_101 : (Jvm.Cond.constantLong "Gridmender$DiagonalSteps" (95 : Nat) (1000000000 : Int64)) ∈ wAll := wAll_in (tb_2 (List.mem_of_getElem? (i := 101) rfl)) rfl
theorem wm_2_102 : (Jvm.Cond.methodLink "Gridmender$DiagonalSteps" (97 : Nat) ({ cls := "Gridmender$Grid", name := "isWithin", desc := "(J)Z" } : Jvm.MethodName)) ∈ wAll := wAll_in (tb_2 (List.mem_of_getElem? (i := 102) rfl)) rfl
theorem wm_2_103 : (Jvm.Cond.methodLink "Gridmender$DiagonalSteps" (68 : Nat) ({ cls := "Gridmender$DiagonalSteps", name := "addColumn", desc := "(IIJ)V" } : Jvm.MethodName)) ∈ wAll := wAll_in (tb_2 (List.mem_of_getElem? (i := 103) rfl)) rfl
theorem wn_2_104 : (Jvm.Cond.privateMethod ({ cls := "Gridmender$DiagonalSteps", name := "addColumn", desc := "(IIJ)V" } : Jvm.MethodName)) ∈ wNest := wNest_in (tb_2 (List.mem_of_getElem? (i := 104) rfl)) rfl
theorem wm_2_105 : (Jvm.Cond.instanceMethod ({ cls := "Gridmender$DiagonalSteps", name := "addColumn", desc := "(IIJ)V" } : Jvm.MethodName)) ∈ wAll := wAll_in (tb_2 (List.mem_of_getElem? (i := 105) rfl)) rfl
theorem wm_2_106 : (Jvm.Cond.code ({ cls := "Gridmender$DiagonalSteps", name := "addColumn", desc := "(IIJ)V" } : Jvm.MethodName) prog_3_method_7_code (5 : Nat) (Option.none : Option Jvm.ClassFile.FieldType)) ∈ wAll := wAll_in (tb_2 (List.mem_of_getElem? (i := 106) rfl)) rfl
theorem wm_2_107 : (Jvm.Cond.methodLink "Gridmender$DiagonalSteps" (71 : Nat) ({ cls := "Gridmender$DiagonalSteps", name := "isCrossClear", desc := "(I)Z" } : Jvm.MethodName)) ∈ wAll := wAll_in (tb_2 (List.mem_of_getElem? (i := 107) rfl)) rfl
theorem wn_2_108 : (Jvm.Cond.privateMethod ({ cls := "Gridmender$DiagonalSteps", name := "isCrossClear", desc := "(I)Z" } : Jvm.MethodName)) ∈ wNest := wNest_in (tb_2 (List.mem_of_getElem? (i := 108) rfl)) rfl
theorem wm_2_109 : (Jvm.Cond.instanceMethod ({ cls := "Gridmender$DiagonalSteps", name := "isCrossClear", desc := "(I)Z" } : Jvm.MethodName)) ∈ wAll := wAll_in (tb_2 (List.mem_of_getElem? (i := 109) rfl)) rfl
theorem wm_2_110 : (Jvm.Cond.code ({ cls := "Gridmender$DiagonalSteps", name := "isCrossClear", desc := "(I)Z" } : Jvm.MethodName) prog_3_method_8_code (3 : Nat) (Option.some Jvm.ClassFile.FieldType.boolean)) ∈ wAll := wAll_in (tb_2 (List.mem_of_getElem? (i := 110) rfl)) rfl
theorem wm_2_111 : (Jvm.Cond.methodLink "Gridmender$DiagonalSteps" (74 : Nat) ({ cls := "Gridmender$DiagonalSteps", name := "findUndividedRow", desc := "(I)I" } : Jvm.MethodName)) ∈ wAll := wAll_in (tb_2 (List.mem_of_getElem? (i := 111) rfl)) rfl
theorem wn_2_112 : (Jvm.Cond.privateMethod ({ cls := "Gridmender$DiagonalSteps", name := "findUndividedRow", desc := "(I)I" } : Jvm.MethodName)) ∈ wNest := wNest_in (tb_2 (List.mem_of_getElem? (i := 112) rfl)) rfl
theorem wm_2_113 : (Jvm.Cond.instanceMethod ({ cls := "Gridmender$DiagonalSteps", name := "findUndividedRow", desc := "(I)I" } : Jvm.MethodName)) ∈ wAll := wAll_in (tb_2 (List.mem_of_getElem? (i := 113) rfl)) rfl
theorem wm_2_114 : (Jvm.Cond.code ({ cls := "Gridmender$DiagonalSteps", name := "findUndividedRow", desc := "(I)I" } : Jvm.MethodName) prog_3_method_9_code (4 : Nat) (Option.some Jvm.ClassFile.FieldType.int)) ∈ wAll := wAll_in (tb_2 (List.mem_of_getElem? (i := 114) rfl)) rfl
theorem wn_2_115 : (Jvm.Cond.methodLinkNest "Gridmender$DiagonalSteps" (101 : Nat) ({ cls := "Gridmender", name := "divides", desc := "(JJ)Z" } : Jvm.MethodName) "Gridmender") ∈ wNest := wNest_in (tb_2 (List.mem_of_getElem? (i := 115) rfl)) rfl
theorem wm_2_116 : (Jvm.Cond.static ({ cls := "Gridmender", name := "divides", desc := "(JJ)Z" } : Jvm.MethodName)) ∈ wAll := wAll_in (tb_2 (List.mem_of_getElem? (i := 116) rfl)) rfl
theorem wm_2_117 : (Jvm.Cond.code ({ cls := "Gridmender", name := "divides", desc := "(JJ)Z" } : Jvm.MethodName) prog_1_method_57_code (4 : Nat) (Option.some Jvm.ClassFile.FieldType.boolean)) ∈ wAll := wAll_in (tb_2 (List.mem_of_getElem? (i := 117) rfl)) rfl
theorem wm_2_118 : (Jvm.Cond.methodLink "Gridmender" (313 : Nat) ({ cls := "Gridmender", name := "isSoundBySteps", desc := "(LGridmender$Grid;)Z" } : Jvm.MethodName)) ∈ wAll := wAll_in (tb_2 (List.mem_of_getElem? (i := 118) rfl)) rfl
theorem wn_2_119 : (Jvm.Cond.privateMethod ({ cls := "Gridmender", name := "isSoundBySteps", desc := "(LGridmender$Grid;)Z" } : Jvm.MethodName)) ∈ wNest := wNest_in (tb_2 (List.mem_of_getElem? (i := 119) rfl)) rfl
theorem wm_2_120 : (Jvm.Cond.instanceMethod ({ cls := "Gridmender", name := "isSoundBySteps", desc := "(LGridmender$Grid;)Z" } : Jvm.MethodName)) ∈ wAll := wAll_in (tb_2 (List.mem_of_getElem? (i := 120) rfl)) rfl
theorem wm_2_121 : (Jvm.Cond.code ({ cls := "Gridmender", name := "isSoundBySteps", desc := "(LGridmender$Grid;)Z" } : Jvm.MethodName) prog_1_method_54_code (5 : Nat) (Option.some Jvm.ClassFile.FieldType.boolean)) ∈ wAll := wAll_in (tb_2 (List.mem_of_getElem? (i := 121) rfl)) rfl
theorem wm_2_122 : (Jvm.Cond.methodLink "Gridmender" (213 : Nat) ({ cls := "Gridmender$Determinants", name := "findDivisor", desc := "(LGridmender$Grid;I)J" } : Jvm.MethodName)) ∈ wAll := wAll_in (tb_2 (List.mem_of_getElem? (i := 122) rfl)) rfl
theorem wm_2_123 : (Jvm.Cond.methodLink "Gridmender" (83 : Nat) ({ cls := "Gridmender$Grid", name := "get", desc := "(II)J" } : Jvm.MethodName)) ∈ wAll := wAll_in (tb_2 (List.mem_of_getElem? (i := 123) rfl)) rfl
theorem wm_2_124 : (Jvm.Cond.methodLink "GridmenderLaw" (253 : Nat) ({ cls := "Gridmender", name := "digest", desc := "()J" } : Jvm.MethodName)) ∈ wAll := wAll_in (tb_2 (List.mem_of_getElem? (i := 124) rfl)) rfl
theorem wm_2_125 : (Jvm.Cond.instanceMethod ({ cls := "Gridmender", name := "digest", desc := "()J" } : Jvm.MethodName)) ∈ wAll := wAll_in (tb_2 (List.mem_of_getElem? (i := 125) rfl)) rfl
theorem wm_2_126 : (Jvm.Cond.selects "Gridmender" ({ cls := "Gridmender", name := "digest", desc := "()J" } : Jvm.MethodName) ({ cls := "Gridmender", name := "digest", desc := "()J" } : Jvm.MethodName)) ∈ wAll := wAll_in (tb_2 (List.mem_of_getElem? (i := 126) rfl)) rfl
theorem wm_2_127 : (Jvm.Cond.code ({ cls := "Gridmender", name := "digest", desc := "()J" } : Jvm.MethodName) prog_1_method_35_code (4 : Nat) (Option.some Jvm.ClassFile.FieldType.long)) ∈ wAll := wAll_in (tb_2 (List.mem_of_getElem? (i := 127) rfl)) rfl
theorem wm_2_128 : (Jvm.Cond.constantLong "Gridmender" (263 : Nat) (8032 : Int64)) ∈ wAll := wAll_in (tb_2 (List.mem_of_getElem? (i := 128) rfl)) rfl
theorem wm_2_129 : (Jvm.Cond.methodLink "Gridmender" (265 : Nat) ({ cls := "Gridmender$Grid", name := "mix", desc := "(J)J" } : Jvm.MethodName)) ∈ wAll := wAll_in (tb_2 (List.mem_of_getElem? (i := 129) rfl)) rfl
theorem wm_2_130 : (Jvm.Cond.instanceMethod ({ cls := "Gridmender$Grid", name := "mix", desc := "(J)J" } : Jvm.MethodName)) ∈ wAll := wAll_in (tb_2 (List.mem_of_getElem? (i := 130) rfl)) rfl
theorem wm_2_131 : (Jvm.Cond.selects "Gridmender$Grid" ({ cls := "Gridmender$Grid", name := "mix", desc := "(J)J" } : Jvm.MethodName) ({ cls := "Gridmender$Grid", name := "mix", desc := "(J)J" } : Jvm.MethodName)) ∈ wAll := wAll_in (tb_2 (List.mem_of_getElem? (i := 131) rfl)) rfl
theorem wm_2_132 : (Jvm.Cond.code ({ cls := "Gridmender$Grid", name := "mix", desc := "(J)J" } : Jvm.MethodName) prog_5_method_19_code (7 : Nat) (Option.some Jvm.ClassFile.FieldType.long)) ∈ wAll := wAll_in (tb_2 (List.mem_of_getElem? (i := 132) rfl)) rfl
theorem wm_2_133 : (Jvm.Cond.constantLong "Gridmender$Grid" (51 : Nat) (31 : Int64)) ∈ wAll := wAll_in (tb_2 (List.mem_of_getElem? (i := 133) rfl)) rfl
theorem wm_2_134 : (Jvm.Cond.constantLong "Gridmender" (269 : Nat) (31 : Int64)) ∈ wAll := wAll_in (tb_2 (List.mem_of_getElem? (i := 134) rfl)) rfl
theorem wm_2_135 : (Jvm.Cond.methodLink "Gridmender" (253 : Nat) ({ cls := "Gridmender", name := "countHouse", desc := "(I)I" } : Jvm.MethodName)) ∈ wAll := wAll_in (tb_2 (List.mem_of_getElem? (i := 135) rfl)) rfl
theorem wn_2_136 : (Jvm.Cond.privateMethod ({ cls := "Gridmender", name := "countHouse", desc := "(I)I" } : Jvm.MethodName)) ∈ wNest := wNest_in (tb_2 (List.mem_of_getElem? (i := 136) rfl)) rfl
theorem wm_2_137 : (Jvm.Cond.instanceMethod ({ cls := "Gridmender", name := "countHouse", desc := "(I)I" } : Jvm.MethodName)) ∈ wAll := wAll_in (tb_2 (List.mem_of_getElem? (i := 137) rfl)) rfl
theorem wm_2_138 : (Jvm.Cond.code ({ cls := "Gridmender", name := "countHouse", desc := "(I)I" } : Jvm.MethodName) prog_1_method_50_code (2 : Nat) (Option.some Jvm.ClassFile.FieldType.int)) ∈ wAll := wAll_in (tb_2 (List.mem_of_getElem? (i := 138) rfl)) rfl
theorem wm_2_139 : (Jvm.Cond.methodLink "Gridmender" (307 : Nat) ({ cls := "Gridmender", name := "countLikePairs", desc := "()I" } : Jvm.MethodName)) ∈ wAll := wAll_in (tb_2 (List.mem_of_getElem? (i := 139) rfl)) rfl
theorem wn_2_140 : (Jvm.Cond.privateMethod ({ cls := "Gridmender", name := "countLikePairs", desc := "()I" } : Jvm.MethodName)) ∈ wNest := wNest_in (tb_2 (List.mem_of_getElem? (i := 140) rfl)) rfl
theorem wm_2_141 : (Jvm.Cond.instanceMethod ({ cls := "Gridmender", name := "countLikePairs", desc := "()I" } : Jvm.MethodName)) ∈ wAll := wAll_in (tb_2 (List.mem_of_getElem? (i := 141) rfl)) rfl
theorem wm_2_142 : (Jvm.Cond.code ({ cls := "Gridmender", name := "countLikePairs", desc := "()I" } : Jvm.MethodName) prog_1_method_51_code (4 : Nat) (Option.some Jvm.ClassFile.FieldType.int)) ∈ wAll := wAll_in (tb_2 (List.mem_of_getElem? (i := 142) rfl)) rfl
theorem wm_2_143 : (Jvm.Cond.classLink "GridmenderLaw" (14 : Nat) "GridmenderLaw$Out") ∈ wAll := wAll_in (tb_2 (List.mem_of_getElem? (i := 143) rfl)) rfl
theorem wm_2_144 : (Jvm.Cond.instantiable "GridmenderLaw$Out" (2 : Nat)) ∈ wAll := wAll_in (tb_2 (List.mem_of_getElem? (i := 144) rfl)) rfl
theorem wn_2_145 : (Jvm.Cond.methodLinkNest "GridmenderLaw" (135 : Nat) ({ cls := "GridmenderLaw$Out", name := "<init>", desc := "()V" } : Jvm.MethodName) "GridmenderLaw") ∈ wNest := wNest_in (tb_2 (List.mem_of_getElem? (i := 145) rfl)) rfl
theorem wm_2_146 : (Jvm.Cond.instanceMethod ({ cls := "GridmenderLaw$Out", name := "<init>", desc := "()V" } : Jvm.MethodName)) ∈ wAll := wAll_in (tb_2 (List.mem_of_getElem? (i := 146) rfl)) rfl
theorem wm_2_147 : (Jvm.Cond.code ({ cls := "GridmenderLaw$Out", name := "<init>", desc := "()V" } : Jvm.MethodName) prog_8_method_1_code (1 : Nat) (Option.none : Option Jvm.ClassFile.FieldType)) ∈ wAll := wAll_in (tb_2 (List.mem_of_getElem? (i := 147) rfl)) rfl
theorem wm_2_148 : (Jvm.Cond.methodLink "GridmenderLaw$Out" (1 : Nat) ({ cls := "java/lang/Object", name := "<init>", desc := "()V" } : Jvm.MethodName)) ∈ wAll := wAll_in (tb_2 (List.mem_of_getElem? (i := 148) rfl)) rfl
theorem wn_2_149 : (Jvm.Cond.fieldLinkNest "GridmenderLaw" (13 : Nat) "GridmenderLaw$Out" "n" "J" "GridmenderLaw") ∈ wNest := wNest_in (tb_2 (List.mem_of_getElem? (i := 149) rfl)) rfl
theorem wn_2_150 : (Jvm.Cond.fieldLinkNest "GridmenderLaw" (86 : Nat) "GridmenderLaw$Out" "s" "Ljava/lang/String;" "GridmenderLaw") ∈ wNest := wNest_in (tb_2 (List.mem_of_getElem? (i := 150) rfl)) rfl
theorem wm_2_155 : (Jvm.Cond.superclass "GridmenderLaw$Out" "java/lang/Object") ∈ wAll := wAll_in (tb_2 (List.mem_of_getElem? (i := 155) rfl)) rfl
theorem wm_2_156 : (Jvm.Cond.methodLink "GridmenderLaw" (136 : Nat) ({ cls := "GridmenderLaw", name := "make", desc := "(LGridmender;IIILGridmenderLaw$Out;)I" } : Jvm.MethodName)) ∈ wAll := wAll_in (tb_2 (List.mem_of_getElem? (i := 156) rfl)) rfl
theorem wm_2_157 : (Jvm.Cond.static ({ cls := "GridmenderLaw", name := "make", desc := "(LGridmender;IIILGridmenderLaw$Out;)I" } : Jvm.MethodName)) ∈ wAll := wAll_in (tb_2 (List.mem_of_getElem? (i := 157) rfl)) rfl
theorem wm_2_158 : (Jvm.Cond.codeWith ({ cls := "GridmenderLaw", name := "make", desc := "(LGridmender;IIILGridmenderLaw$Out;)I" } : Jvm.MethodName) method_2_code (6 : Nat) (Option.some Jvm.ClassFile.FieldType.int) [((0 : Nat), (13 : Nat), (16 : Nat), (19 : Nat)), ((0 : Nat), (13 : Nat), (20 : Nat), (21 : Nat))]) ∈ wAll := wAll_in (tb_2 (List.mem_of_getElem? (i := 158) rfl)) rfl
theorem wm_2_159 : (Jvm.Cond.classLink "GridmenderLaw" (19 : Nat) "java/lang/IndexOutOfBoundsException") ∈ wAll := wAll_in (tb_2 (List.mem_of_getElem? (i := 159) rfl)) rfl
theorem wm_2_160 : (Jvm.Cond.classLink "GridmenderLaw" (21 : Nat) "java/lang/IllegalArgumentException") ∈ wAll := wAll_in (tb_2 (List.mem_of_getElem? (i := 160) rfl)) rfl
theorem wm_2_161 : (Jvm.Cond.methodLink "GridmenderLaw" (7 : Nat) ({ cls := "Gridmender", name := "make", desc := "(III)I" } : Jvm.MethodName)) ∈ wAll := wAll_in (tb_2 (List.mem_of_getElem? (i := 161) rfl)) rfl
theorem wm_2_162 : (Jvm.Cond.instanceMethod ({ cls := "Gridmender", name := "make", desc := "(III)I" } : Jvm.MethodName)) ∈ wAll := wAll_in (tb_2 (List.mem_of_getElem? (i := 162) rfl)) rfl
theorem wm_2_163 : (Jvm.Cond.selects "Gridmender" ({ cls := "Gridmender", name := "make", desc := "(III)I" } : Jvm.MethodName) ({ cls := "Gridmender", name := "make", desc := "(III)I" } : Jvm.MethodName)) ∈ wAll := wAll_in (tb_2 (List.mem_of_getElem? (i := 163) rfl)) rfl
theorem wm_2_164 : (Jvm.Cond.code ({ cls := "Gridmender", name := "make", desc := "(III)I" } : Jvm.MethodName) prog_1_method_2_code (6 : Nat) (Option.some Jvm.ClassFile.FieldType.int)) ∈ wAll := wAll_in (tb_2 (List.mem_of_getElem? (i := 164) rfl)) rfl
theorem wm_2_165 : (Jvm.Cond.methodLink "Gridmender" (48 : Nat) ({ cls := "Gridmender", name := "needTable", desc := "(I)LGridmender$Grid;" } : Jvm.MethodName)) ∈ wAll := wAll_in (tb_2 (List.mem_of_getElem? (i := 165) rfl)) rfl
theorem wn_2_166 : (Jvm.Cond.privateMethod ({ cls := "Gridmender", name := "needTable", desc := "(I)LGridmender$Grid;" } : Jvm.MethodName)) ∈ wNest := wNest_in (tb_2 (List.mem_of_getElem? (i := 166) rfl)) rfl
theorem wm_2_167 : (Jvm.Cond.instanceMethod ({ cls := "Gridmender", name := "needTable", desc := "(I)LGridmender$Grid;" } : Jvm.MethodName)) ∈ wAll := wAll_in (tb_2 (List.mem_of_getElem? (i := 167) rfl)) rfl
theorem wm_2_168 : (Jvm.Cond.code ({ cls := "Gridmender", name := "needTable", desc := "(I)LGridmender$Grid;" } : Jvm.MethodName) prog_1_method_36_code (2 : Nat) (Option.some (Jvm.ClassFile.FieldType.object "Gridmender$Grid"))) ∈ wAll := wAll_in (tb_2 (List.mem_of_getElem? (i := 168) rfl)) rfl
theorem wm_2_169 : (Jvm.Cond.classLink "Gridmender" (271 : Nat) "java/lang/IndexOutOfBoundsException") ∈ wAll := wAll_in (tb_2 (List.mem_of_getElem? (i := 169) rfl)) rfl
theorem wm_2_170 : (Jvm.Cond.instantiable "java/lang/IndexOutOfBoundsException" (6 : Nat)) ∈ wAll := wAll_in (tb_2 (List.mem_of_getElem? (i := 170) rfl)) rfl
theorem wn_2_171 : (Jvm.Cond.castable "java/lang/IndexOutOfBoundsException" "java/lang/IndexOutOfBoundsException") ∈ wNest := wNest_in (tb_2 (List.mem_of_getElem? (i := 171) rfl)) rfl
theorem wn_2_172 : (Jvm.Cond.declares ({ cls := "java/lang/RuntimeException", name := "<init>", desc := "()V" } : Jvm.MethodName)) ∈ wNest := wNest_in (tb_2 (List.mem_of_getElem? (i := 172) rfl)) rfl
theorem wn_2_173 : (Jvm.Cond.declares ({ cls := "java/lang/RuntimeException", name := "<init>", desc := "(Ljava/lang/String;)V" } : Jvm.MethodName)) ∈ wNest := wNest_in (tb_2 (List.mem_of_getElem? (i := 173) rfl)) rfl
theorem wn_2_174 : (Jvm.Cond.declares ({ cls := "java/lang/Exception", name := "<init>", desc := "()V" } : Jvm.MethodName)) ∈ wNest := wNest_in (tb_2 (List.mem_of_getElem? (i := 174) rfl)) rfl
theorem wn_2_175 : (Jvm.Cond.declares ({ cls := "java/lang/Exception", name := "<init>", desc := "(Ljava/lang/String;)V" } : Jvm.MethodName)) ∈ wNest := wNest_in (tb_2 (List.mem_of_getElem? (i := 175) rfl)) rfl
theorem wn_2_176 : (Jvm.Cond.declares ({ cls := "java/lang/Throwable", name := "<init>", desc := "()V" } : Jvm.MethodName)) ∈ wNest := wNest_in (tb_2 (List.mem_of_getElem? (i := 176) rfl)) rfl
theorem wn_2_177 : (Jvm.Cond.declares ({ cls := "java/lang/Throwable", name := "<init>", desc := "(Ljava/lang/String;)V" } : Jvm.MethodName)) ∈ wNest := wNest_in (tb_2 (List.mem_of_getElem? (i := 177) rfl)) rfl
theorem wm_2_178 : (Jvm.Cond.selects "java/lang/IndexOutOfBoundsException" ({ cls := "java/lang/Throwable", name := "fillInStackTrace", desc := "(I)Ljava/lang/Throwable;" } : Jvm.MethodName) ({ cls := "java/lang/Throwable", name := "fillInStackTrace", desc := "(I)Ljava/lang/Throwable;" } : Jvm.MethodName)) ∈ wAll := wAll_in (tb_2 (List.mem_of_getElem? (i := 178) rfl)) rfl
theorem wm_2_179 : (Jvm.Cond.selects "java/lang/IndexOutOfBoundsException" ({ cls := "java/lang/Throwable", name := "fillInStackTrace", desc := "()Ljava/lang/Throwable;" } : Jvm.MethodName) ({ cls := "java/lang/Throwable", name := "fillInStackTrace", desc := "()Ljava/lang/Throwable;" } : Jvm.MethodName)) ∈ wAll := wAll_in (tb_2 (List.mem_of_getElem? (i := 179) rfl)) rfl
theorem wm_2_190 : (Jvm.Cond.fieldLink "java/lang/Throwable" (198 : Nat) "java/lang/Throwable" "backtrace" "Ljava/lang/Object;") ∈ wAll := wAll_in (tb_2 (List.mem_of_getElem? (i := 190) rfl)) rfl
theorem wm_2_191 : (Jvm.Cond.superclass "java/lang/Throwable" "java/lang/Object") ∈ wAll := wAll_in (tb_2 (List.mem_of_getElem? (i := 191) rfl)) rfl
theorem wm_2_192 : (Jvm.Cond.instanceMethod ({ cls := "java/lang/Throwable", name := "<init>", desc := "()V" } : Jvm.MethodName)) ∈ wAll := wAll_in (tb_2 (List.mem_of_getElem? (i := 192) rfl)) rfl
theorem wm_2_193 : (Jvm.Cond.code ({ cls := "java/lang/Throwable", name := "<init>", desc := "()V" } : Jvm.MethodName) prog_28_method_1_code (1 : Nat) (Option.none : Option Jvm.ClassFile.FieldType)) ∈ wAll := wAll_in (tb_2 (List.mem_of_getElem? (i := 193) rfl)) rfl
theorem wm_2_194 : (Jvm.Cond.methodLink "java/lang/Throwable" (1 : Nat) ({ cls := "java/lang/Object", name := "<init>", desc := "()V" } : Jvm.MethodName)) ∈ wAll := wAll_in (tb_2 (List.mem_of_getElem? (i := 194) rfl)) rfl
theorem wm_2_195 : (Jvm.Cond.fieldLink "java/lang/Throwable" (13 : Nat) "java/lang/Throwable" "UNASSIGNED_STACK" "[Ljava/lang/StackTraceElement;") ∈ wAll := wAll_in (tb_2 (List.mem_of_getElem? (i := 195) rfl)) rfl
theorem wt_2_196 : (Jvm.Cond.laysStatic "java/lang/Throwable" "UNASSIGNED_STACK" "[Ljava/lang/StackTraceElement;") ∈ lw_tbl := tb_2 (List.mem_of_getElem? (i := 196) rfl)
theorem wm_2_197 : (Jvm.Cond.fieldLink "java/lang/Throwable" (20 : Nat) "java/lang/Throwable" "SUPPRESSED_SENTINEL" "Ljava/util/List;") ∈ wAll := wAll_in (tb_2 (List.mem_of_getElem? (i := 197) rfl)) rfl
theorem wt_2_198 : (Jvm.Cond.laysStatic "java/lang/Throwable" "SUPPRESSED_SENTINEL" "Ljava/util/List;") ∈ lw_tbl := tb_2 (List.mem_of_getElem? (i := 198) rfl)
theorem wm_2_199 : (Jvm.Cond.methodLink "java/lang/Throwable" (27 : Nat) ({ cls := "java/lang/Throwable", name := "fillInStackTrace", desc := "()Ljava/lang/Throwable;" } : Jvm.MethodName)) ∈ wAll := wAll_in (tb_2 (List.mem_of_getElem? (i := 199) rfl)) rfl
theorem wm_2_200 : (Jvm.Cond.instanceMethod ({ cls := "java/lang/Throwable", name := "fillInStackTrace", desc := "()Ljava/lang/Throwable;" } : Jvm.MethodName)) ∈ wAll := wAll_in (tb_2 (List.mem_of_getElem? (i := 200) rfl)) rfl
theorem wm_2_201 : (Jvm.Cond.sameMethod "java/lang/Throwable" "java/lang/Throwable" "fillInStackTrace" "()Ljava/lang/Throwable;") ∈ wAll := wAll_in (tb_2 (List.mem_of_getElem? (i := 201) rfl)) rfl
theorem wm_2_202 : (Jvm.Cond.selects "java/lang/IllegalArgumentException" ({ cls := "java/lang/Throwable", name := "fillInStackTrace", desc := "()Ljava/lang/Throwable;" } : Jvm.MethodName) ({ cls := "java/lang/Throwable", name := "fillInStackTrace", desc := "()Ljava/lang/Throwable;" } : Jvm.MethodName)) ∈ wAll := wAll_in (tb_2 (List.mem_of_getElem? (i := 202) rfl)) rfl
theorem wm_2_203 : (Jvm.Cond.selects "java/lang/IllegalStateException" ({ cls := "java/lang/Throwable", name := "fillInStackTrace", desc := "()Ljava/lang/Throwable;" } : Jvm.MethodName) ({ cls := "java/lang/Throwable", name := "fillInStackTrace", desc := "()Ljava/lang/Throwable;" } : Jvm.MethodName)) ∈ wAll := wAll_in (tb_2 (List.mem_of_getElem? (i := 203) rfl)) rfl
theorem wm_2_205 : (Jvm.Cond.methodLink "java/lang/Throwable" (202 : Nat) ({ cls := "java/lang/Throwable", name := "fillInStackTrace", desc := "(I)Ljava/lang/Throwable;" } : Jvm.MethodName)) ∈ wAll := wAll_in (tb_2 (List.mem_of_getElem? (i := 205) rfl)) rfl
theorem wn_2_206 : (Jvm.Cond.privateMethod ({ cls := "java/lang/Throwable", name := "fillInStackTrace", desc := "(I)Ljava/lang/Throwable;" } : Jvm.MethodName)) ∈ wNest := wNest_in (tb_2 (List.mem_of_getElem? (i := 206) rfl)) rfl
theorem wm_2_207 : (Jvm.Cond.instanceMethod ({ cls := "java/lang/Throwable", name := "fillInStackTrace", desc := "(I)Ljava/lang/Throwable;" } : Jvm.MethodName)) ∈ wAll := wAll_in (tb_2 (List.mem_of_getElem? (i := 207) rfl)) rfl
theorem wm_2_208 : (Jvm.Cond.instantiable "java/lang/Throwable" (6 : Nat)) ∈ wAll := wAll_in (tb_2 (List.mem_of_getElem? (i := 208) rfl)) rfl
theorem wn_2_209 : (Jvm.Cond.native ({ cls := "java/lang/Throwable", name := "fillInStackTrace", desc := "(I)Ljava/lang/Throwable;" } : Jvm.MethodName)) ∈ wNest := wNest_in (tb_2 (List.mem_of_getElem? (i := 209) rfl)) rfl
theorem wt_2_210 : (Jvm.Cond.stringRef "Gridmender" (273 : Nat) "no such table") ∈ lw_tbl := tb_2 (List.mem_of_getElem? (i := 210) rfl)
theorem wm_2_211 : (Jvm.Cond.methodLink "Gridmender" (275 : Nat) ({ cls := "java/lang/IndexOutOfBoundsException", name := "<init>", desc := "(Ljava/lang/String;)V" } : Jvm.MethodName)) ∈ wAll := wAll_in (tb_2 (List.mem_of_getElem? (i := 211) rfl)) rfl
theorem wm_2_212 : (Jvm.Cond.instanceMethod ({ cls := "java/lang/IndexOutOfBoundsException", name := "<init>", desc := "(Ljava/lang/String;)V" } : Jvm.MethodName)) ∈ wAll := wAll_in (tb_2 (List.mem_of_getElem? (i := 212) rfl)) rfl
theorem wm_2_213 : (Jvm.Cond.code ({ cls := "java/lang/IndexOutOfBoundsException", name := "<init>", desc := "(Ljava/lang/String;)V" } : Jvm.MethodName) prog_18_method_2_code (2 : Nat) (Option.none : Option Jvm.ClassFile.FieldType)) ∈ wAll := wAll_in (tb_2 (List.mem_of_getElem? (i := 213) rfl)) rfl
theorem wm_2_214 : (Jvm.Cond.methodLink "java/lang/IndexOutOfBoundsException" (7 : Nat) ({ cls := "java/lang/RuntimeException", name := "<init>", desc := "(Ljava/lang/String;)V" } : Jvm.MethodName)) ∈ wAll := wAll_in (tb_2 (List.mem_of_getElem? (i := 214) rfl)) rfl
theorem wm_2_215 : (Jvm.Cond.instanceMethod ({ cls := "java/lang/RuntimeException", name := "<init>", desc := "(Ljava/lang/String;)V" } : Jvm.MethodName)) ∈ wAll := wAll_in (tb_2 (List.mem_of_getElem? (i := 215) rfl)) rfl
theorem wm_2_216 : (Jvm.Cond.code ({ cls := "java/lang/RuntimeException", name := "<init>", desc := "(Ljava/lang/String;)V" } : Jvm.MethodName) prog_22_method_2_code (2 : Nat) (Option.none : Option Jvm.ClassFile.FieldType)) ∈ wAll := wAll_in (tb_2 (List.mem_of_getElem? (i := 216) rfl)) rfl
theorem wm_2_217 : (Jvm.Cond.methodLink "java/lang/RuntimeException" (7 : Nat) ({ cls := "java/lang/Exception", name := "<init>", desc := "(Ljava/lang/String;)V" } : Jvm.MethodName)) ∈ wAll := wAll_in (tb_2 (List.mem_of_getElem? (i := 217) rfl)) rfl
theorem wm_2_218 : (Jvm.Cond.instanceMethod ({ cls := "java/lang/Exception", name := "<init>", desc := "(Ljava/lang/String;)V" } : Jvm.MethodName)) ∈ wAll := wAll_in (tb_2 (List.mem_of_getElem? (i := 218) rfl)) rfl
theorem wm_2_219 : (Jvm.Cond.code ({ cls := "java/lang/Exception", name := "<init>", desc := "(Ljava/lang/String;)V" } : Jvm.MethodName) prog_15_method_2_code (2 : Nat) (Option.none : Option Jvm.ClassFile.FieldType)) ∈ wAll := wAll_in (tb_2 (List.mem_of_getElem? (i := 219) rfl)) rfl
theorem wm_2_220 : (Jvm.Cond.methodLink "java/lang/Exception" (7 : Nat) ({ cls := "java/lang/Throwable", name := "<init>", desc := "(Ljava/lang/String;)V" } : Jvm.MethodName)) ∈ wAll := wAll_in (tb_2 (List.mem_of_getElem? (i := 220) rfl)) rfl
theorem wm_2_221 : (Jvm.Cond.instanceMethod ({ cls := "java/lang/Throwable", name := "<init>", desc := "(Ljava/lang/String;)V" } : Jvm.MethodName)) ∈ wAll := wAll_in (tb_2 (List.mem_of_getElem? (i := 221) rfl)) rfl
theorem wm_2_222 : (Jvm.Cond.code ({ cls := "java/lang/Throwable", name := "<init>", desc := "(Ljava/lang/String;)V" } : Jvm.MethodName) prog_28_method_2_code (2 : Nat) (Option.none : Option Jvm.ClassFile.FieldType)) ∈ wAll := wAll_in (tb_2 (List.mem_of_getElem? (i := 222) rfl)) rfl
theorem wm_2_223 : (Jvm.Cond.fieldLink "java/lang/Throwable" (198 : Nat) "java/lang/Throwable" "backtrace" "Ljava/lang/Object;") ∈ wAll := wAll_in (tb_2 (List.mem_of_getElem? (i := 223) rfl)) rfl
theorem wm_2_224 : (Jvm.Cond.fieldLink "java/lang/Throwable" (31 : Nat) "java/lang/Throwable" "detailMessage" "Ljava/lang/String;") ∈ wAll := wAll_in (tb_2 (List.mem_of_getElem? (i := 224) rfl)) rfl
theorem wm_2_225 : (Jvm.Cond.fieldLink "java/lang/Throwable" (7 : Nat) "java/lang/Throwable" "cause" "Ljava/lang/Throwable;") ∈ wAll := wAll_in (tb_2 (List.mem_of_getElem? (i := 225) rfl)) rfl
theorem wm_2_226 : (Jvm.Cond.fieldLink "java/lang/Throwable" (17 : Nat) "java/lang/Throwable" "stackTrace" "[Ljava/lang/StackTraceElement;") ∈ wAll := wAll_in (tb_2 (List.mem_of_getElem? (i := 226) rfl)) rfl
theorem wm_2_227 : (Jvm.Cond.fieldLink "java/lang/Throwable" (24 : Nat) "java/lang/Throwable" "suppressedExceptions" "Ljava/util/List;") ∈ wAll := wAll_in (tb_2 (List.mem_of_getElem? (i := 227) rfl)) rfl
theorem wm_2_235 : (Jvm.Cond.superclass "java/lang/IndexOutOfBoundsException" "java/lang/RuntimeException") ∈ wAll := wAll_in (tb_2 (List.mem_of_getElem? (i := 235) rfl)) rfl
theorem wm_2_236 : (Jvm.Cond.arrayClass Jvm.ClassFile.FieldType.byte) ∈ wAll := wAll_in (tb_2 (List.mem_of_getElem? (i := 236) rfl)) rfl
theorem wm_2_237 : (Jvm.Cond.methodLink "Gridmender" (52 : Nat) ({ cls := "Gridmender", name := "isCount", desc := "(I)Z" } : Jvm.MethodName)) ∈ wAll := wAll_in (tb_2 (List.mem_of_getElem? (i := 237) rfl)) rfl
theorem wm_2_238 : (Jvm.Cond.static ({ cls := "Gridmender", name := "isCount", desc := "(I)Z" } : Jvm.MethodName)) ∈ wAll := wAll_in (tb_2 (List.mem_of_getElem? (i := 238) rfl)) rfl
theorem wm_2_239 : (Jvm.Cond.code ({ cls := "Gridmender", name := "isCount", desc := "(I)Z" } : Jvm.MethodName) prog_1_method_40_code (1 : Nat) (Option.some Jvm.ClassFile.FieldType.boolean)) ∈ wAll := wAll_in (tb_2 (List.mem_of_getElem? (i := 239) rfl)) rfl
theorem wm_3_0 : (Jvm.Cond.methodLink "Gridmender" (56 : Nat) ({ cls := "Gridmender", name := "needArgument", desc := "(Z)V" } : Jvm.MethodName)) ∈ wAll := wAll_in (tb_3 (List.mem_of_getElem? (i := 0) rfl)) rfl
theorem wm_3_1 : (Jvm.Cond.static ({ cls := "Gridmender", name := "needArgument", desc := "(Z)V" } : Jvm.MethodName)) ∈ wAll := wAll_in (tb_3 (List.mem_of_getElem? (i := 1) rfl)) rfl
theorem wm_3_2 : (Jvm.Cond.code ({ cls := "Gridmender", name := "needArgument", desc := "(Z)V" } : Jvm.MethodName) prog_1_method_38_code (1 : Nat) (Option.none : Option Jvm.ClassFile.FieldType)) ∈ wAll := wAll_in (tb_3 (List.mem_of_getElem? (i := 2) rfl)) rfl
theorem wm_3_3 : (Jvm.Cond.classLink "Gridmender" (278 : Nat) "java/lang/IllegalArgumentException") ∈ wAll := wAll_in (tb_3 (List.mem_of_getElem? (i := 3) rfl)) rfl
theorem wm_3_4 : (Jvm.Cond.instantiable "java/lang/IllegalArgumentException" (6 : Nat)) ∈ wAll := wAll_in (tb_3 (List.mem_of_getElem? (i := 4) rfl)) rfl
theorem wn_3_5 : (Jvm.Cond.castable "java/lang/IllegalArgumentException" "java/lang/IllegalArgumentException") ∈ wNest := wNest_in (tb_3 (List.mem_of_getElem? (i := 5) rfl)) rfl
theorem wm_3_6 : (Jvm.Cond.selects "java/lang/IllegalArgumentException" ({ cls := "java/lang/Throwable", name := "fillInStackTrace", desc := "(I)Ljava/lang/Throwable;" } : Jvm.MethodName) ({ cls := "java/lang/Throwable", name := "fillInStackTrace", desc := "(I)Ljava/lang/Throwable;" } : Jvm.MethodName)) ∈ wAll := wAll_in (tb_3 (List.mem_of_getElem? (i := 6) rfl)) rfl
theorem wt_3_12 : (Jvm.Cond.stringRef "Gridmender" (280 : Nat) "not allowed here") ∈ lw_tbl := tb_3 (List.mem_of_getElem? (i := 12) rfl)
theorem wm_3_13 : (Jvm.Cond.methodLink "Gridmender" (282 : Nat) ({ cls := "java/lang/IllegalArgumentException", name := "<init>", desc := "(Ljava/lang/String;)V" } : Jvm.MethodName)) ∈ wAll := wAll_in (tb_3 (List.mem_of_getElem? (i := 13) rfl)) rfl
theorem wm_3_14 : (Jvm.Cond.instanceMethod ({ cls := "java/lang/IllegalArgumentException", name := "<init>", desc := "(Ljava/lang/String;)V" } : Jvm.MethodName)) ∈ wAll := wAll_in (tb_3 (List.mem_of_getElem? (i := 14) rfl)) rfl
theorem wm_3_15 : (Jvm.Cond.code ({ cls := "java/lang/IllegalArgumentException", name := "<init>", desc := "(Ljava/lang/String;)V" } : Jvm.MethodName) prog_16_method_2_code (2 : Nat) (Option.none : Option Jvm.ClassFile.FieldType)) ∈ wAll := wAll_in (tb_3 (List.mem_of_getElem? (i := 15) rfl)) rfl
theorem wm_3_16 : (Jvm.Cond.methodLink "java/lang/IllegalArgumentException" (7 : Nat) ({ cls := "java/lang/RuntimeException", name := "<init>", desc := "(Ljava/lang/String;)V" } : Jvm.MethodName)) ∈ wAll := wAll_in (tb_3 (List.mem_of_getElem? (i := 16) rfl)) rfl
theorem wm_3_18 : (Jvm.Cond.superclass "java/lang/IllegalArgumentException" "java/lang/RuntimeException") ∈ wAll := wAll_in (tb_3 (List.mem_of_getElem? (i := 18) rfl)) rfl
theorem wm_3_19 : (Jvm.Cond.methodLink "Gridmender" (60 : Nat) ({ cls := "Gridmender$Grid", name := "countFilled", desc := "()I" } : Jvm.MethodName)) ∈ wAll := wAll_in (tb_3 (List.mem_of_getElem? (i := 19) rfl)) rfl
theorem wm_3_20 : (Jvm.Cond.instanceMethod ({ cls := "Gridmender$Grid", name := "countFilled", desc := "()I" } : Jvm.MethodName)) ∈ wAll := wAll_in (tb_3 (List.mem_of_getElem? (i := 20) rfl)) rfl
theorem wm_3_21 : (Jvm.Cond.selects "Gridmender$Grid" ({ cls := "Gridmender$Grid", name := "countFilled", desc := "()I" } : Jvm.MethodName) ({ cls := "Gridmender$Grid", name := "countFilled", desc := "()I" } : Jvm.MethodName)) ∈ wAll := wAll_in (tb_3 (List.mem_of_getElem? (i := 21) rfl)) rfl
theorem wm_3_22 : (Jvm.Cond.code ({ cls := "Gridmender$Grid", name := "countFilled", desc := "()I" } : Jvm.MethodName) prog_5_method_15_code (4 : Nat) (Option.some Jvm.ClassFile.FieldType.int)) ∈ wAll := wAll_in (tb_3 (List.mem_of_getElem? (i := 22) rfl)) rfl
theorem wm_3_23 : (Jvm.Cond.methodLink "Gridmender" (64 : Nat) ({ cls := "Gridmender$Grid", name := "reshape", desc := "(II)V" } : Jvm.MethodName)) ∈ wAll := wAll_in (tb_3 (List.mem_of_getElem? (i := 23) rfl)) rfl
theorem wm_3_24 : (Jvm.Cond.methodLink "Gridmender" (68 : Nat) ({ cls := "Gridmender", name := "tellDone", desc := "(I)I" } : Jvm.MethodName)) ∈ wAll := wAll_in (tb_3 (List.mem_of_getElem? (i := 24) rfl)) rfl
theorem wn_3_25 : (Jvm.Cond.privateMethod ({ cls := "Gridmender", name := "tellDone", desc := "(I)I" } : Jvm.MethodName)) ∈ wNest := wNest_in (tb_3 (List.mem_of_getElem? (i := 25) rfl)) rfl
theorem wm_3_26 : (Jvm.Cond.instanceMethod ({ cls := "Gridmender", name := "tellDone", desc := "(I)I" } : Jvm.MethodName)) ∈ wAll := wAll_in (tb_3 (List.mem_of_getElem? (i := 26) rfl)) rfl
theorem wm_3_27 : (Jvm.Cond.code ({ cls := "Gridmender", name := "tellDone", desc := "(I)I" } : Jvm.MethodName) prog_1_method_42_code (2 : Nat) (Option.some Jvm.ClassFile.FieldType.int)) ∈ wAll := wAll_in (tb_3 (List.mem_of_getElem? (i := 27) rfl)) rfl
theorem wm_3_28 : (Jvm.Cond.methodLink "GridmenderLaw" (142 : Nat) ({ cls := "GridmenderLaw", name := "unit", desc := "(LGridmender;IILGridmenderLaw$Out;)I" } : Jvm.MethodName)) ∈ wAll := wAll_in (tb_3 (List.mem_of_getElem? (i := 28) rfl)) rfl
theorem wm_3_29 : (Jvm.Cond.static ({ cls := "GridmenderLaw", name := "unit", desc := "(LGridmender;IILGridmenderLaw$Out;)I" } : Jvm.MethodName)) ∈ wAll := wAll_in (tb_3 (List.mem_of_getElem? (i := 29) rfl)) rfl
theorem wm_3_30 : (Jvm.Cond.codeWith ({ cls := "GridmenderLaw", name := "unit", desc := "(LGridmender;IILGridmenderLaw$Out;)I" } : Jvm.MethodName) method_3_code (5 : Nat) (Option.some Jvm.ClassFile.FieldType.int) [((0 : Nat), (11 : Nat), (14 : Nat), (19 : Nat)), ((0 : Nat), (11 : Nat), (18 : Nat), (21 : Nat))]) ∈ wAll := wAll_in (tb_3 (List.mem_of_getElem? (i := 30) rfl)) rfl
theorem wm_3_31 : (Jvm.Cond.methodLink "GridmenderLaw" (23 : Nat) ({ cls := "Gridmender", name := "unit", desc := "(II)I" } : Jvm.MethodName)) ∈ wAll := wAll_in (tb_3 (List.mem_of_getElem? (i := 31) rfl)) rfl
theorem wm_3_32 : (Jvm.Cond.instanceMethod ({ cls := "Gridmender", name := "unit", desc := "(II)I" } : Jvm.MethodName)) ∈ wAll := wAll_in (tb_3 (List.mem_of_getElem? (i := 32) rfl)) rfl
theorem wm_3_33 : (Jvm.Cond.selects "Gridmender" ({ cls := "Gridmender", name := "unit", desc := "(II)I" } : Jvm.MethodName) ({ cls := "Gridmender", name := "unit", desc := "(II)I" } : Jvm.MethodName)) ∈ wAll := wAll_in (tb_3 (List.mem_of_getElem? (i := 33) rfl)) rfl
theorem wm_3_34 : (Jvm.Cond.code ({ cls := "Gridmender", name := "unit", desc := "(II)I" } : Jvm.MethodName) prog_1_method_3_code (5 : Nat) (Option.some Jvm.ClassFile.FieldType.int)) ∈ wAll := wAll_in (tb_3 (List.mem_of_getElem? (i := 34) rfl)) rfl
theorem wm_3_35 : (Jvm.Cond.methodLink "Gridmender" (72 : Nat) ({ cls := "Gridmender$Grid", name := "becomeUnit", desc := "(I)V" } : Jvm.MethodName)) ∈ wAll := wAll_in (tb_3 (List.mem_of_getElem? (i := 35) rfl)) rfl
theorem wm_3_36 : (Jvm.Cond.methodLink "GridmenderLaw" (146 : Nat) ({ cls := "GridmenderLaw", name := "put", desc := "(LGridmender;IIIILGridmenderLaw$Out;)I" } : Jvm.MethodName)) ∈ wAll := wAll_in (tb_3 (List.mem_of_getElem? (i := 36) rfl)) rfl
theorem wm_3_37 : (Jvm.Cond.static ({ cls := "GridmenderLaw", name := "put", desc := "(LGridmender;IIIILGridmenderLaw$Out;)I" } : Jvm.MethodName)) ∈ wAll := wAll_in (tb_3 (List.mem_of_getElem? (i := 37) rfl)) rfl
theorem wm_3_38 : (Jvm.Cond.codeWith ({ cls := "GridmenderLaw", name := "put", desc := "(LGridmender;IIIILGridmenderLaw$Out;)I" } : Jvm.MethodName) method_4_code (7 : Nat) (Option.some Jvm.ClassFile.FieldType.int) [((0 : Nat), (15 : Nat), (18 : Nat), (19 : Nat)), ((0 : Nat), (15 : Nat), (22 : Nat), (21 : Nat))]) ∈ wAll := wAll_in (tb_3 (List.mem_of_getElem? (i := 38) rfl)) rfl
theorem wm_3_39 : (Jvm.Cond.methodLink "GridmenderLaw" (27 : Nat) ({ cls := "Gridmender", name := "put", desc := "(IIII)I" } : Jvm.MethodName)) ∈ wAll := wAll_in (tb_3 (List.mem_of_getElem? (i := 39) rfl)) rfl
theorem wm_3_40 : (Jvm.Cond.instanceMethod ({ cls := "Gridmender", name := "put", desc := "(IIII)I" } : Jvm.MethodName)) ∈ wAll := wAll_in (tb_3 (List.mem_of_getElem? (i := 40) rfl)) rfl
theorem wm_3_41 : (Jvm.Cond.selects "Gridmender" ({ cls := "Gridmender", name := "put", desc := "(IIII)I" } : Jvm.MethodName) ({ cls := "Gridmender", name := "put", desc := "(IIII)I" } : Jvm.MethodName)) ∈ wAll := wAll_in (tb_3 (List.mem_of_getElem? (i := 41) rfl)) rfl
theorem wm_3_42 : (Jvm.Cond.code ({ cls := "Gridmender", name := "put", desc := "(IIII)I" } : Jvm.MethodName) prog_1_method_4_code (7 : Nat) (Option.some Jvm.ClassFile.FieldType.int)) ∈ wAll := wAll_in (tb_3 (List.mem_of_getElem? (i := 42) rfl)) rfl
theorem wm_3_43 : (Jvm.Cond.methodLink "Gridmender" (76 : Nat) ({ cls := "Gridmender$Grid", name := "hasLine", desc := "(ZI)Z" } : Jvm.MethodName)) ∈ wAll := wAll_in (tb_3 (List.mem_of_getElem? (i := 43) rfl)) rfl
theorem wm_3_44 : (Jvm.Cond.instanceMethod ({ cls := "Gridmender$Grid", name := "hasLine", desc := "(ZI)Z" } : Jvm.MethodName)) ∈ wAll := wAll_in (tb_3 (List.mem_of_getElem? (i := 44) rfl)) rfl
theorem wm_3_45 : (Jvm.Cond.selects "Gridmender$Grid" ({ cls := "Gridmender$Grid", name := "hasLine", desc := "(ZI)Z" } : Jvm.MethodName) ({ cls := "Gridmender$Grid", name := "hasLine", desc := "(ZI)Z" } : Jvm.MethodName)) ∈ wAll := wAll_in (tb_3 (List.mem_of_getElem? (i := 45) rfl)) rfl
theorem wm_3_46 : (Jvm.Cond.code ({ cls := "Gridmender$Grid", name := "hasLine", desc := "(ZI)Z" } : Jvm.MethodName) prog_5_method_5_code (3 : Nat) (Option.some Jvm.ClassFile.FieldType.boolean)) ∈ wAll := wAll_in (tb_3 (List.mem_of_getElem? (i := 46) rfl)) rfl
theorem wm_3_47 : (Jvm.Cond.methodLink "Gridmender" (80 : Nat) ({ cls := "Gridmender", name := "needIndex", desc := "(Z)V" } : Jvm.MethodName)) ∈ wAll := wAll_in (tb_3 (List.mem_of_getElem? (i := 47) rfl)) rfl
theorem wm_3_48 : (Jvm.Cond.static ({ cls := "Gridmender", name := "needIndex", desc := "(Z)V" } : Jvm.MethodName)) ∈ wAll := wAll_in (tb_3 (List.mem_of_getElem? (i := 48) rfl)) rfl
theorem wm_3_49 : (Jvm.Cond.code ({ cls := "Gridmender", name := "needIndex", desc := "(Z)V" } : Jvm.MethodName) prog_1_method_37_code (1 : Nat) (Option.none : Option Jvm.ClassFile.FieldType)) ∈ wAll := wAll_in (tb_3 (List.mem_of_getElem? (i := 49) rfl)) rfl
theorem wt_3_50 : (Jvm.Cond.stringRef "Gridmender" (276 : Nat) "no such row or column") ∈ lw_tbl := tb_3 (List.mem_of_getElem? (i := 50) rfl)
theorem wm_3_51 : (Jvm.Cond.methodLink "Gridmender" (87 : Nat) ({ cls := "Gridmender$Grid", name := "set", desc := "(IIJ)V" } : Jvm.MethodName)) ∈ wAll := wAll_in (tb_3 (List.mem_of_getElem? (i := 51) rfl)) rfl
theorem wm_3_52 : (Jvm.Cond.methodLink "GridmenderLaw" (150 : Nat) ({ cls := "GridmenderLaw", name := "sow", desc := "(LGridmender;IIILGridmenderLaw$Out;)I" } : Jvm.MethodName)) ∈ wAll := wAll_in (tb_3 (List.mem_of_getElem? (i := 52) rfl)) rfl
theorem wm_3_53 : (Jvm.Cond.static ({ cls := "GridmenderLaw", name := "sow", desc := "(LGridmender;IIILGridmenderLaw$Out;)I" } : Jvm.MethodName)) ∈ wAll := wAll_in (tb_3 (List.mem_of_getElem? (i := 53) rfl)) rfl
theorem wm_3_54 : (Jvm.Cond.codeWith ({ cls := "GridmenderLaw", name := "sow", desc := "(LGridmender;IIILGridmenderLaw$Out;)I" } : Jvm.MethodName) method_5_code (6 : Nat) (Option.some Jvm.ClassFile.FieldType.int) [((0 : Nat), (13 : Nat), (16 : Nat), (19 : Nat)), ((0 : Nat), (13 : Nat), (20 : Nat), (21 : Nat))]) ∈ wAll := wAll_in (tb_3 (List.mem_of_getElem? (i := 54) rfl)) rfl
theorem wm_3_55 : (Jvm.Cond.methodLink "GridmenderLaw" (31 : Nat) ({ cls := "Gridmender", name := "sow", desc := "(III)I" } : Jvm.MethodName)) ∈ wAll := wAll_in (tb_3 (List.mem_of_getElem? (i := 55) rfl)) rfl
theorem wm_3_56 : (Jvm.Cond.instanceMethod ({ cls := "Gridmender", name := "sow", desc := "(III)I" } : Jvm.MethodName)) ∈ wAll := wAll_in (tb_3 (List.mem_of_getElem? (i := 56) rfl)) rfl
theorem wm_3_57 : (Jvm.Cond.selects "Gridmender" ({ cls := "Gridmender", name := "sow", desc := "(III)I" } : Jvm.MethodName) ({ cls := "Gridmender", name := "sow", desc := "(III)I" } : Jvm.MethodName)) ∈ wAll := wAll_in (tb_3 (List.mem_of_getElem? (i := 57) rfl)) rfl
theorem wm_3_58 : (Jvm.Cond.code ({ cls := "Gridmender", name := "sow", desc := "(III)I" } : Jvm.MethodName) prog_1_method_5_code (8 : Nat) (Option.some Jvm.ClassFile.FieldType.int)) ∈ wAll := wAll_in (tb_3 (List.mem_of_getElem? (i := 58) rfl)) rfl
theorem wm_3_59 : (Jvm.Cond.constant "Gridmender" (91 : Nat) (65535 : Int32)) ∈ wAll := wAll_in (tb_3 (List.mem_of_getElem? (i := 59) rfl)) rfl
theorem wm_3_60 : (Jvm.Cond.constant "Gridmender" (99 : Nat) (65536 : Int32)) ∈ wAll := wAll_in (tb_3 (List.mem_of_getElem? (i := 60) rfl)) rfl
theorem wm_3_61 : (Jvm.Cond.methodLink "Gridmender" (100 : Nat) ({ cls := "Gridmender", name := "remainder", desc := "(JJ)J" } : Jvm.MethodName)) ∈ wAll := wAll_in (tb_3 (List.mem_of_getElem? (i := 61) rfl)) rfl
theorem wm_3_62 : (Jvm.Cond.static ({ cls := "Gridmender", name := "remainder", desc := "(JJ)J" } : Jvm.MethodName)) ∈ wAll := wAll_in (tb_3 (List.mem_of_getElem? (i := 62) rfl)) rfl
theorem wm_3_63 : (Jvm.Cond.code ({ cls := "Gridmender", name := "remainder", desc := "(JJ)J" } : Jvm.MethodName) prog_1_method_56_code (4 : Nat) (Option.some Jvm.ClassFile.FieldType.long)) ∈ wAll := wAll_in (tb_3 (List.mem_of_getElem? (i := 63) rfl)) rfl
theorem wm_3_64 : (Jvm.Cond.methodLink "Gridmender" (321 : Nat) ({ cls := "java/lang/Math", name := "floorMod", desc := "(JJ)J" } : Jvm.MethodName)) ∈ wAll := wAll_in (tb_3 (List.mem_of_getElem? (i := 64) rfl)) rfl
theorem wm_3_65 : (Jvm.Cond.static ({ cls := "java/lang/Math", name := "floorMod", desc := "(JJ)J" } : Jvm.MethodName)) ∈ wAll := wAll_in (tb_3 (List.mem_of_getElem? (i := 65) rfl)) rfl
theorem wm_3_66 : (Jvm.Cond.code ({ cls := "java/lang/Math", name := "floorMod", desc := "(JJ)J" } : Jvm.MethodName) prog_21_method_52_code (6 : Nat) (Option.some Jvm.ClassFile.FieldType.long)) ∈ wAll := wAll_in (tb_3 (List.mem_of_getElem? (i := 66) rfl)) rfl
theorem wm_3_67 : (Jvm.Cond.methodLink "GridmenderLaw" (153 : Nat) ({ cls := "GridmenderLaw", name := "copy", desc := "(LGridmender;IILGridmenderLaw$Out;)I" } : Jvm.MethodName)) ∈ wAll := wAll_in (tb_3 (List.mem_of_getElem? (i := 67) rfl)) rfl
theorem wm_3_68 : (Jvm.Cond.static ({ cls := "GridmenderLaw", name := "copy", desc := "(LGridmender;IILGridmenderLaw$Out;)I" } : Jvm.MethodName)) ∈ wAll := wAll_in (tb_3 (List.mem_of_getElem? (i := 68) rfl)) rfl
theorem wm_3_69 : (Jvm.Cond.codeWith ({ cls := "GridmenderLaw", name := "copy", desc := "(LGridmender;IILGridmenderLaw$Out;)I" } : Jvm.MethodName) method_6_code (5 : Nat) (Option.some Jvm.ClassFile.FieldType.int) [((0 : Nat), (11 : Nat), (14 : Nat), (19 : Nat))]) ∈ wAll := wAll_in (tb_3 (List.mem_of_getElem? (i := 69) rfl)) rfl
theorem wm_3_70 : (Jvm.Cond.methodLink "GridmenderLaw" (34 : Nat) ({ cls := "Gridmender", name := "copy", desc := "(II)I" } : Jvm.MethodName)) ∈ wAll := wAll_in (tb_3 (List.mem_of_getElem? (i := 70) rfl)) rfl
theorem wm_3_71 : (Jvm.Cond.instanceMethod ({ cls := "Gridmender", name := "copy", desc := "(II)I" } : Jvm.MethodName)) ∈ wAll := wAll_in (tb_3 (List.mem_of_getElem? (i := 71) rfl)) rfl
theorem wm_3_72 : (Jvm.Cond.selects "Gridmender" ({ cls := "Gridmender", name := "copy", desc := "(II)I" } : Jvm.MethodName) ({ cls := "Gridmender", name := "copy", desc := "(II)I" } : Jvm.MethodName)) ∈ wAll := wAll_in (tb_3 (List.mem_of_getElem? (i := 72) rfl)) rfl
theorem wm_3_73 : (Jvm.Cond.code ({ cls := "Gridmender", name := "copy", desc := "(II)I" } : Jvm.MethodName) prog_1_method_6_code (6 : Nat) (Option.some Jvm.ClassFile.FieldType.int)) ∈ wAll := wAll_in (tb_3 (List.mem_of_getElem? (i := 73) rfl)) rfl
theorem wm_3_74 : (Jvm.Cond.methodLink "Gridmender" (108 : Nat) ({ cls := "Gridmender$Grid", name := "becomeLike", desc := "(LGridmender$Grid;)V" } : Jvm.MethodName)) ∈ wAll := wAll_in (tb_3 (List.mem_of_getElem? (i := 74) rfl)) rfl
theorem wm_3_75 : (Jvm.Cond.methodLink "GridmenderLaw" (156 : Nat) ({ cls := "GridmenderLaw", name := "swap", desc := "(LGridmender;IILGridmenderLaw$Out;)I" } : Jvm.MethodName)) ∈ wAll := wAll_in (tb_3 (List.mem_of_getElem? (i := 75) rfl)) rfl
theorem wm_3_76 : (Jvm.Cond.static ({ cls := "GridmenderLaw", name := "swap", desc := "(LGridmender;IILGridmenderLaw$Out;)I" } : Jvm.MethodName)) ∈ wAll := wAll_in (tb_3 (List.mem_of_getElem? (i := 76) rfl)) rfl
theorem wm_3_77 : (Jvm.Cond.codeWith ({ cls := "GridmenderLaw", name := "swap", desc := "(LGridmender;IILGridmenderLaw$Out;)I" } : Jvm.MethodName) method_7_code (5 : Nat) (Option.some Jvm.ClassFile.FieldType.int) [((0 : Nat), (11 : Nat), (14 : Nat), (19 : Nat))]) ∈ wAll := wAll_in (tb_3 (List.mem_of_getElem? (i := 77) rfl)) rfl
theorem wm_3_78 : (Jvm.Cond.methodLink "GridmenderLaw" (37 : Nat) ({ cls := "Gridmender", name := "swap", desc := "(II)I" } : Jvm.MethodName)) ∈ wAll := wAll_in (tb_3 (List.mem_of_getElem? (i := 78) rfl)) rfl
theorem wm_3_79 : (Jvm.Cond.instanceMethod ({ cls := "Gridmender", name := "swap", desc := "(II)I" } : Jvm.MethodName)) ∈ wAll := wAll_in (tb_3 (List.mem_of_getElem? (i := 79) rfl)) rfl
theorem wm_3_80 : (Jvm.Cond.selects "Gridmender" ({ cls := "Gridmender", name := "swap", desc := "(II)I" } : Jvm.MethodName) ({ cls := "Gridmender", name := "swap", desc := "(II)I" } : Jvm.MethodName)) ∈ wAll := wAll_in (tb_3 (List.mem_of_getElem? (i := 80) rfl)) rfl
theorem wm_3_81 : (Jvm.Cond.code ({ cls := "Gridmender", name := "swap", desc := "(II)I" } : Jvm.MethodName) prog_1_method_7_code (6 : Nat) (Option.some Jvm.ClassFile.FieldType.int)) ∈ wAll := wAll_in (tb_3 (List.mem_of_getElem? (i := 81) rfl)) rfl
theorem wm_3_82 : (Jvm.Cond.methodLink "GridmenderLaw" (159 : Nat) ({ cls := "GridmenderLaw", name := "flip", desc := "(LGridmender;ILGridmenderLaw$Out;)I" } : Jvm.MethodName)) ∈ wAll := wAll_in (tb_3 (List.mem_of_getElem? (i := 82) rfl)) rfl
theorem wm_3_83 : (Jvm.Cond.static ({ cls := "GridmenderLaw", name := "flip", desc := "(LGridmender;ILGridmenderLaw$Out;)I" } : Jvm.MethodName)) ∈ wAll := wAll_in (tb_3 (List.mem_of_getElem? (i := 83) rfl)) rfl
theorem wm_3_84 : (Jvm.Cond.codeWith ({ cls := "GridmenderLaw", name := "flip", desc := "(LGridmender;ILGridmenderLaw$Out;)I" } : Jvm.MethodName) method_8_code (4 : Nat) (Option.some Jvm.ClassFile.FieldType.int) [((0 : Nat), (10 : Nat), (13 : Nat), (19 : Nat))]) ∈ wAll := wAll_in (tb_3 (List.mem_of_getElem? (i := 84) rfl)) rfl
theorem wm_3_85 : (Jvm.Cond.methodLink "GridmenderLaw" (40 : Nat) ({ cls := "Gridmender", name := "flip", desc := "(I)I" } : Jvm.MethodName)) ∈ wAll := wAll_in (tb_3 (List.mem_of_getElem? (i := 85) rfl)) rfl
theorem wm_3_86 : (Jvm.Cond.instanceMethod ({ cls := "Gridmender", name := "flip", desc := "(I)I" } : Jvm.MethodName)) ∈ wAll := wAll_in (tb_3 (List.mem_of_getElem? (i := 86) rfl)) rfl
theorem wm_3_87 : (Jvm.Cond.selects "Gridmender" ({ cls := "Gridmender", name := "flip", desc := "(I)I" } : Jvm.MethodName) ({ cls := "Gridmender", name := "flip", desc := "(I)I" } : Jvm.MethodName)) ∈ wAll := wAll_in (tb_3 (List.mem_of_getElem? (i := 87) rfl)) rfl
theorem wm_3_88 : (Jvm.Cond.code ({ cls := "Gridmender", name := "flip", desc := "(I)I" } : Jvm.MethodName) prog_1_method_8_code (5 : Nat) (Option.some Jvm.ClassFile.FieldType.int)) ∈ wAll := wAll_in (tb_3 (List.mem_of_getElem? (i := 88) rfl)) rfl
theorem wm_3_89 : (Jvm.Cond.methodLink "GridmenderLaw" (163 : Nat) ({ cls := "GridmenderLaw", name := "exchange", desc := "(LGridmender;IZIILGridmenderLaw$Out;)I" } : Jvm.MethodName)) ∈ wAll := wAll_in (tb_3 (List.mem_of_getElem? (i := 89) rfl)) rfl
theorem wm_3_90 : (Jvm.Cond.static ({ cls := "GridmenderLaw", name := "exchange", desc := "(LGridmender;IZIILGridmenderLaw$Out;)I" } : Jvm.MethodName)) ∈ wAll := wAll_in (tb_3 (List.mem_of_getElem? (i := 90) rfl)) rfl
theorem wm_3_91 : (Jvm.Cond.codeWith ({ cls := "GridmenderLaw", name := "exchange", desc := "(LGridmender;IZIILGridmenderLaw$Out;)I" } : Jvm.MethodName) method_9_code (7 : Nat) (Option.some Jvm.ClassFile.FieldType.int) [((0 : Nat), (15 : Nat), (18 : Nat), (19 : Nat))]) ∈ wAll := wAll_in (tb_3 (List.mem_of_getElem? (i := 91) rfl)) rfl
theorem wm_3_92 : (Jvm.Cond.methodLink "GridmenderLaw" (44 : Nat) ({ cls := "Gridmender", name := "exchange", desc := "(IZII)I" } : Jvm.MethodName)) ∈ wAll := wAll_in (tb_3 (List.mem_of_getElem? (i := 92) rfl)) rfl
theorem wm_3_93 : (Jvm.Cond.instanceMethod ({ cls := "Gridmender", name := "exchange", desc := "(IZII)I" } : Jvm.MethodName)) ∈ wAll := wAll_in (tb_3 (List.mem_of_getElem? (i := 93) rfl)) rfl
theorem wm_3_94 : (Jvm.Cond.selects "Gridmender" ({ cls := "Gridmender", name := "exchange", desc := "(IZII)I" } : Jvm.MethodName) ({ cls := "Gridmender", name := "exchange", desc := "(IZII)I" } : Jvm.MethodName)) ∈ wAll := wAll_in (tb_3 (List.mem_of_getElem? (i := 94) rfl)) rfl
theorem wm_3_95 : (Jvm.Cond.code ({ cls := "Gridmender", name := "exchange", desc := "(IZII)I" } : Jvm.MethodName) prog_1_method_9_code (6 : Nat) (Option.some Jvm.ClassFile.FieldType.int)) ∈ wAll := wAll_in (tb_3 (List.mem_of_getElem? (i := 95) rfl)) rfl
theorem wm_3_96 : (Jvm.Cond.methodLink "Gridmender" (112 : Nat) ({ cls := "Gridmender$Grid", name := "exchangeLines", desc := "(ZII)V" } : Jvm.MethodName)) ∈ wAll := wAll_in (tb_3 (List.mem_of_getElem? (i := 96) rfl)) rfl
theorem wm_3_97 : (Jvm.Cond.methodLink "Gridmender" (116 : Nat) ({ cls := "Gridmender", name := "settleChange", desc := "(LGridmender$Grid;)I" } : Jvm.MethodName)) ∈ wAll := wAll_in (tb_3 (List.mem_of_getElem? (i := 97) rfl)) rfl
theorem wn_3_98 : (Jvm.Cond.privateMethod ({ cls := "Gridmender", name := "settleChange", desc := "(LGridmender$Grid;)I" } : Jvm.MethodName)) ∈ wNest := wNest_in (tb_3 (List.mem_of_getElem? (i := 98) rfl)) rfl
theorem wm_3_99 : (Jvm.Cond.instanceMethod ({ cls := "Gridmender", name := "settleChange", desc := "(LGridmender$Grid;)I" } : Jvm.MethodName)) ∈ wAll := wAll_in (tb_3 (List.mem_of_getElem? (i := 99) rfl)) rfl
theorem wm_3_100 : (Jvm.Cond.code ({ cls := "Gridmender", name := "settleChange", desc := "(LGridmender$Grid;)I" } : Jvm.MethodName) prog_1_method_44_code (3 : Nat) (Option.some Jvm.ClassFile.FieldType.int)) ∈ wAll := wAll_in (tb_3 (List.mem_of_getElem? (i := 100) rfl)) rfl
theorem wm_3_101 : (Jvm.Cond.constantLong "Gridmender" (291 : Nat) (20 : Int64)) ∈ wAll := wAll_in (tb_3 (List.mem_of_getElem? (i := 101) rfl)) rfl
theorem wm_3_102 : (Jvm.Cond.methodLink "Gridmender" (293 : Nat) ({ cls := "Gridmender$Grid", name := "isWithin", desc := "(J)Z" } : Jvm.MethodName)) ∈ wAll := wAll_in (tb_3 (List.mem_of_getElem? (i := 102) rfl)) rfl
theorem wm_3_103 : (Jvm.Cond.methodLink "Gridmender" (132 : Nat) ({ cls := "Gridmender", name := "tellRefused", desc := "()I" } : Jvm.MethodName)) ∈ wAll := wAll_in (tb_3 (List.mem_of_getElem? (i := 103) rfl)) rfl
theorem wn_3_104 : (Jvm.Cond.privateMethod ({ cls := "Gridmender", name := "tellRefused", desc := "()I" } : Jvm.MethodName)) ∈ wNest := wNest_in (tb_3 (List.mem_of_getElem? (i := 104) rfl)) rfl
theorem wm_3_105 : (Jvm.Cond.instanceMethod ({ cls := "Gridmender", name := "tellRefused", desc := "()I" } : Jvm.MethodName)) ∈ wAll := wAll_in (tb_3 (List.mem_of_getElem? (i := 105) rfl)) rfl
theorem wm_3_106 : (Jvm.Cond.code ({ cls := "Gridmender", name := "tellRefused", desc := "()I" } : Jvm.MethodName) prog_1_method_43_code (1 : Nat) (Option.some Jvm.ClassFile.FieldType.int)) ∈ wAll := wAll_in (tb_3 (List.mem_of_getElem? (i := 106) rfl)) rfl
theorem wm_3_107 : (Jvm.Cond.methodLink "Gridmender" (297 : Nat) ({ cls := "Gridmender$Grid", name := "countUnlike", desc := "(LGridmender$Grid;)I" } : Jvm.MethodName)) ∈ wAll := wAll_in (tb_3 (List.mem_of_getElem? (i := 107) rfl)) rfl
theorem wm_3_108 : (Jvm.Cond.methodLink "GridmenderLaw" (167 : Nat) ({ cls := "GridmenderLaw", name := "turn", desc := "(LGridmender;IZILGridmenderLaw$Out;)I" } : Jvm.MethodName)) ∈ wAll := wAll_in (tb_3 (List.mem_of_getElem? (i := 108) rfl)) rfl
theorem wm_3_109 : (Jvm.Cond.static ({ cls := "GridmenderLaw", name := "turn", desc := "(LGridmender;IZILGridmenderLaw$Out;)I" } : Jvm.MethodName)) ∈ wAll := wAll_in (tb_3 (List.mem_of_getElem? (i := 109) rfl)) rfl
theorem wm_3_110 : (Jvm.Cond.codeWith ({ cls := "GridmenderLaw", name := "turn", desc := "(LGridmender;IZILGridmenderLaw$Out;)I" } : Jvm.MethodName) method_10_code (6 : Nat) (Option.some Jvm.ClassFile.FieldType.int) [((0 : Nat), (13 : Nat), (16 : Nat), (19 : Nat))]) ∈ wAll := wAll_in (tb_3 (List.mem_of_getElem? (i := 110) rfl)) rfl
theorem wm_3_111 : (Jvm.Cond.methodLink "GridmenderLaw" (48 : Nat) ({ cls := "Gridmender", name := "turn", desc := "(IZI)I" } : Jvm.MethodName)) ∈ wAll := wAll_in (tb_3 (List.mem_of_getElem? (i := 111) rfl)) rfl
theorem wm_3_112 : (Jvm.Cond.instanceMethod ({ cls := "Gridmender", name := "turn", desc := "(IZI)I" } : Jvm.MethodName)) ∈ wAll := wAll_in (tb_3 (List.mem_of_getElem? (i := 112) rfl)) rfl
theorem wm_3_113 : (Jvm.Cond.selects "Gridmender" ({ cls := "Gridmender", name := "turn", desc := "(IZI)I" } : Jvm.MethodName) ({ cls := "Gridmender", name := "turn", desc := "(IZI)I" } : Jvm.MethodName)) ∈ wAll := wAll_in (tb_3 (List.mem_of_getElem? (i := 113) rfl)) rfl
theorem wm_3_114 : (Jvm.Cond.code ({ cls := "Gridmender", name := "turn", desc := "(IZI)I" } : Jvm.MethodName) prog_1_method_10_code (5 : Nat) (Option.some Jvm.ClassFile.FieldType.int)) ∈ wAll := wAll_in (tb_3 (List.mem_of_getElem? (i := 114) rfl)) rfl
theorem wm_3_115 : (Jvm.Cond.methodLink "Gridmender" (120 : Nat) ({ cls := "Gridmender$Grid", name := "turnLine", desc := "(ZI)V" } : Jvm.MethodName)) ∈ wAll := wAll_in (tb_3 (List.mem_of_getElem? (i := 115) rfl)) rfl
theorem wm_3_116 : (Jvm.Cond.methodLink "GridmenderLaw" (171 : Nat) ({ cls := "GridmenderLaw", name := "add", desc := "(LGridmender;IZIIILGridmenderLaw$Out;)I" } : Jvm.MethodName)) ∈ wAll := wAll_in (tb_3 (List.mem_of_getElem? (i := 116) rfl)) rfl
theorem wm_3_117 : (Jvm.Cond.static ({ cls := "GridmenderLaw", name := "add", desc := "(LGridmender;IZIIILGridmenderLaw$Out;)I" } : Jvm.MethodName)) ∈ wAll := wAll_in (tb_3 (List.mem_of_getElem? (i := 117) rfl)) rfl
theorem wm_3_118 : (Jvm.Cond.codeWith ({ cls := "GridmenderLaw", name := "add", desc := "(LGridmender;IZIIILGridmenderLaw$Out;)I" } : Jvm.MethodName) method_11_code (8 : Nat) (Option.some Jvm.ClassFile.FieldType.int) [((0 : Nat), (17 : Nat), (20 : Nat), (19 : Nat)), ((0 : Nat), (17 : Nat), (24 : Nat), (21 : Nat))]) ∈ wAll := wAll_in (tb_3 (List.mem_of_getElem? (i := 118) rfl)) rfl
theorem wm_3_119 : (Jvm.Cond.methodLink "GridmenderLaw" (52 : Nat) ({ cls := "Gridmender", name := "add", desc := "(IZIII)I" } : Jvm.MethodName)) ∈ wAll := wAll_in (tb_3 (List.mem_of_getElem? (i := 119) rfl)) rfl
theorem wm_3_120 : (Jvm.Cond.instanceMethod ({ cls := "Gridmender", name := "add", desc := "(IZIII)I" } : Jvm.MethodName)) ∈ wAll := wAll_in (tb_3 (List.mem_of_getElem? (i := 120) rfl)) rfl
theorem wm_3_121 : (Jvm.Cond.selects "Gridmender" ({ cls := "Gridmender", name := "add", desc := "(IZIII)I" } : Jvm.MethodName) ({ cls := "Gridmender", name := "add", desc := "(IZIII)I" } : Jvm.MethodName)) ∈ wAll := wAll_in (tb_3 (List.mem_of_getElem? (i := 121) rfl)) rfl
theorem wm_3_122 : (Jvm.Cond.code ({ cls := "Gridmender", name := "add", desc := "(IZIII)I" } : Jvm.MethodName) prog_1_method_11_code (7 : Nat) (Option.some Jvm.ClassFile.FieldType.int)) ∈ wAll := wAll_in (tb_3 (List.mem_of_getElem? (i := 122) rfl)) rfl
theorem wm_3_123 : (Jvm.Cond.methodLink "Gridmender" (124 : Nat) ({ cls := "Gridmender$Grid", name := "addLine", desc := "(ZIIJ)V" } : Jvm.MethodName)) ∈ wAll := wAll_in (tb_3 (List.mem_of_getElem? (i := 123) rfl)) rfl
theorem wm_3_124 : (Jvm.Cond.methodLink "GridmenderLaw" (175 : Nat) ({ cls := "GridmenderLaw", name := "widen", desc := "(LGridmender;IZLGridmenderLaw$Out;)I" } : Jvm.MethodName)) ∈ wAll := wAll_in (tb_3 (List.mem_of_getElem? (i := 124) rfl)) rfl
theorem wm_3_125 : (Jvm.Cond.static ({ cls := "GridmenderLaw", name := "widen", desc := "(LGridmender;IZLGridmenderLaw$Out;)I" } : Jvm.MethodName)) ∈ wAll := wAll_in (tb_3 (List.mem_of_getElem? (i := 125) rfl)) rfl
theorem wm_3_126 : (Jvm.Cond.codeWith ({ cls := "GridmenderLaw", name := "widen", desc := "(LGridmender;IZLGridmenderLaw$Out;)I" } : Jvm.MethodName) method_12_code (5 : Nat) (Option.some Jvm.ClassFile.FieldType.int) [((0 : Nat), (11 : Nat), (14 : Nat), (19 : Nat))]) ∈ wAll := wAll_in (tb_3 (List.mem_of_getElem? (i := 126) rfl)) rfl
theorem wm_3_127 : (Jvm.Cond.methodLink "GridmenderLaw" (56 : Nat) ({ cls := "Gridmender", name := "widen", desc := "(IZ)I" } : Jvm.MethodName)) ∈ wAll := wAll_in (tb_3 (List.mem_of_getElem? (i := 127) rfl)) rfl
theorem wm_3_128 : (Jvm.Cond.instanceMethod ({ cls := "Gridmender", name := "widen", desc := "(IZ)I" } : Jvm.MethodName)) ∈ wAll := wAll_in (tb_3 (List.mem_of_getElem? (i := 128) rfl)) rfl
theorem wm_3_129 : (Jvm.Cond.selects "Gridmender" ({ cls := "Gridmender", name := "widen", desc := "(IZ)I" } : Jvm.MethodName) ({ cls := "Gridmender", name := "widen", desc := "(IZ)I" } : Jvm.MethodName)) ∈ wAll := wAll_in (tb_3 (List.mem_of_getElem? (i := 129) rfl)) rfl
theorem wm_3_130 : (Jvm.Cond.code ({ cls := "Gridmender", name := "widen", desc := "(IZ)I" } : Jvm.MethodName) prog_1_method_12_code (5 : Nat) (Option.some Jvm.ClassFile.FieldType.int)) ∈ wAll := wAll_in (tb_3 (List.mem_of_getElem? (i := 130) rfl)) rfl
theorem wm_3_131 : (Jvm.Cond.methodLink "Gridmender" (128 : Nat) ({ cls := "Gridmender$Grid", name := "countLines", desc := "(Z)I" } : Jvm.MethodName)) ∈ wAll := wAll_in (tb_3 (List.mem_of_getElem? (i := 131) rfl)) rfl
theorem wm_3_132 : (Jvm.Cond.instanceMethod ({ cls := "Gridmender$Grid", name := "countLines", desc := "(Z)I" } : Jvm.MethodName)) ∈ wAll := wAll_in (tb_3 (List.mem_of_getElem? (i := 132) rfl)) rfl
theorem wm_3_133 : (Jvm.Cond.selects "Gridmender$Grid" ({ cls := "Gridmender$Grid", name := "countLines", desc := "(Z)I" } : Jvm.MethodName) ({ cls := "Gridmender$Grid", name := "countLines", desc := "(Z)I" } : Jvm.MethodName)) ∈ wAll := wAll_in (tb_3 (List.mem_of_getElem? (i := 133) rfl)) rfl
theorem wm_3_134 : (Jvm.Cond.code ({ cls := "Gridmender$Grid", name := "countLines", desc := "(Z)I" } : Jvm.MethodName) prog_5_method_4_code (2 : Nat) (Option.some Jvm.ClassFile.FieldType.int)) ∈ wAll := wAll_in (tb_3 (List.mem_of_getElem? (i := 134) rfl)) rfl
theorem wm_3_135 : (Jvm.Cond.methodLink "Gridmender" (135 : Nat) ({ cls := "Gridmender$Grid", name := "takeOver", desc := "(LGridmender$Grid;)V" } : Jvm.MethodName)) ∈ wAll := wAll_in (tb_3 (List.mem_of_getElem? (i := 135) rfl)) rfl
theorem wm_3_136 : (Jvm.Cond.instanceMethod ({ cls := "Gridmender$Grid", name := "takeOver", desc := "(LGridmender$Grid;)V" } : Jvm.MethodName)) ∈ wAll := wAll_in (tb_3 (List.mem_of_getElem? (i := 136) rfl)) rfl
theorem wm_3_137 : (Jvm.Cond.selects "Gridmender$Grid" ({ cls := "Gridmender$Grid", name := "takeOver", desc := "(LGridmender$Grid;)V" } : Jvm.MethodName) ({ cls := "Gridmender$Grid", name := "takeOver", desc := "(LGridmender$Grid;)V" } : Jvm.MethodName)) ∈ wAll := wAll_in (tb_3 (List.mem_of_getElem? (i := 137) rfl)) rfl
theorem wm_3_138 : (Jvm.Cond.code ({ cls := "Gridmender$Grid", name := "takeOver", desc := "(LGridmender$Grid;)V" } : Jvm.MethodName) prog_5_method_9_code (4 : Nat) (Option.none : Option Jvm.ClassFile.FieldType)) ∈ wAll := wAll_in (tb_3 (List.mem_of_getElem? (i := 138) rfl)) rfl
theorem wm_3_139 : (Jvm.Cond.methodLink "GridmenderLaw" (179 : Nat) ({ cls := "GridmenderLaw", name := "drop", desc := "(LGridmender;IZILGridmenderLaw$Out;)I" } : Jvm.MethodName)) ∈ wAll := wAll_in (tb_3 (List.mem_of_getElem? (i := 139) rfl)) rfl
theorem wm_3_140 : (Jvm.Cond.static ({ cls := "GridmenderLaw", name := "drop", desc := "(LGridmender;IZILGridmenderLaw$Out;)I" } : Jvm.MethodName)) ∈ wAll := wAll_in (tb_3 (List.mem_of_getElem? (i := 140) rfl)) rfl
theorem wm_3_141 : (Jvm.Cond.codeWith ({ cls := "GridmenderLaw", name := "drop", desc := "(LGridmender;IZILGridmenderLaw$Out;)I" } : Jvm.MethodName) method_13_code (6 : Nat) (Option.some Jvm.ClassFile.FieldType.int) [((0 : Nat), (13 : Nat), (16 : Nat), (19 : Nat))]) ∈ wAll := wAll_in (tb_3 (List.mem_of_getElem? (i := 141) rfl)) rfl
theorem wm_3_142 : (Jvm.Cond.methodLink "GridmenderLaw" (60 : Nat) ({ cls := "Gridmender", name := "drop", desc := "(IZI)I" } : Jvm.MethodName)) ∈ wAll := wAll_in (tb_3 (List.mem_of_getElem? (i := 142) rfl)) rfl
theorem wm_3_143 : (Jvm.Cond.instanceMethod ({ cls := "Gridmender", name := "drop", desc := "(IZI)I" } : Jvm.MethodName)) ∈ wAll := wAll_in (tb_3 (List.mem_of_getElem? (i := 143) rfl)) rfl
theorem wm_3_144 : (Jvm.Cond.selects "Gridmender" ({ cls := "Gridmender", name := "drop", desc := "(IZI)I" } : Jvm.MethodName) ({ cls := "Gridmender", name := "drop", desc := "(IZI)I" } : Jvm.MethodName)) ∈ wAll := wAll_in (tb_3 (List.mem_of_getElem? (i := 144) rfl)) rfl
theorem wm_3_145 : (Jvm.Cond.code ({ cls := "Gridmender", name := "drop", desc := "(IZI)I" } : Jvm.MethodName) prog_1_method_13_code (7 : Nat) (Option.some Jvm.ClassFile.FieldType.int)) ∈ wAll := wAll_in (tb_3 (List.mem_of_getElem? (i := 145) rfl)) rfl
theorem wm_3_146 : (Jvm.Cond.methodLink "GridmenderLaw" (182 : Nat) ({ cls := "GridmenderLaw", name := "sum", desc := "(LGridmender;IIZILGridmenderLaw$Out;)I" } : Jvm.MethodName)) ∈ wAll := wAll_in (tb_3 (List.mem_of_getElem? (i := 146) rfl)) rfl
theorem wm_3_147 : (Jvm.Cond.static ({ cls := "GridmenderLaw", name := "sum", desc := "(LGridmender;IIZILGridmenderLaw$Out;)I" } : Jvm.MethodName)) ∈ wAll := wAll_in (tb_3 (List.mem_of_getElem? (i := 147) rfl)) rfl
theorem wm_3_148 : (Jvm.Cond.codeWith ({ cls := "GridmenderLaw", name := "sum", desc := "(LGridmender;IIZILGridmenderLaw$Out;)I" } : Jvm.MethodName) method_14_code (7 : Nat) (Option.some Jvm.ClassFile.FieldType.int) [((0 : Nat), (15 : Nat), (18 : Nat), (19 : Nat))]) ∈ wAll := wAll_in (tb_3 (List.mem_of_getElem? (i := 148) rfl)) rfl
theorem wm_3_149 : (Jvm.Cond.methodLink "GridmenderLaw" (63 : Nat) ({ cls := "Gridmender", name := "sum", desc := "(IIZI)I" } : Jvm.MethodName)) ∈ wAll := wAll_in (tb_3 (List.mem_of_getElem? (i := 149) rfl)) rfl
theorem wm_3_150 : (Jvm.Cond.instanceMethod ({ cls := "Gridmender", name := "sum", desc := "(IIZI)I" } : Jvm.MethodName)) ∈ wAll := wAll_in (tb_3 (List.mem_of_getElem? (i := 150) rfl)) rfl
theorem wm_3_151 : (Jvm.Cond.selects "Gridmender" ({ cls := "Gridmender", name := "sum", desc := "(IIZI)I" } : Jvm.MethodName) ({ cls := "Gridmender", name := "sum", desc := "(IIZI)I" } : Jvm.MethodName)) ∈ wAll := wAll_in (tb_3 (List.mem_of_getElem? (i := 151) rfl)) rfl
theorem wm_3_152 : (Jvm.Cond.code ({ cls := "Gridmender", name := "sum", desc := "(IIZI)I" } : Jvm.MethodName) prog_1_method_14_code (12 : Nat) (Option.some Jvm.ClassFile.FieldType.int)) ∈ wAll := wAll_in (tb_3 (List.mem_of_getElem? (i := 152) rfl)) rfl
theorem wm_3_153 : (Jvm.Cond.methodLink "Gridmender" (138 : Nat) ({ cls := "Gridmender", name := "settleForm", desc := "(LGridmender$Grid;LGridmender$Grid;)I" } : Jvm.MethodName)) ∈ wAll := wAll_in (tb_3 (List.mem_of_getElem? (i := 153) rfl)) rfl
theorem wn_3_154 : (Jvm.Cond.privateMethod ({ cls := "Gridmender", name := "settleForm", desc := "(LGridmender$Grid;LGridmender$Grid;)I" } : Jvm.MethodName)) ∈ wNest := wNest_in (tb_3 (List.mem_of_getElem? (i := 154) rfl)) rfl
theorem wm_3_155 : (Jvm.Cond.instanceMethod ({ cls := "Gridmender", name := "settleForm", desc := "(LGridmender$Grid;LGridmender$Grid;)I" } : Jvm.MethodName)) ∈ wAll := wAll_in (tb_3 (List.mem_of_getElem? (i := 155) rfl)) rfl
theorem wm_3_156 : (Jvm.Cond.code ({ cls := "Gridmender", name := "settleForm", desc := "(LGridmender$Grid;LGridmender$Grid;)I" } : Jvm.MethodName) prog_1_method_45_code (3 : Nat) (Option.some Jvm.ClassFile.FieldType.int)) ∈ wAll := wAll_in (tb_3 (List.mem_of_getElem? (i := 156) rfl)) rfl
theorem wm_3_157 : (Jvm.Cond.methodLink "GridmenderLaw" (186 : Nat) ({ cls := "GridmenderLaw", name := "multiply", desc := "(LGridmender;IIILGridmenderLaw$Out;)I" } : Jvm.MethodName)) ∈ wAll := wAll_in (tb_3 (List.mem_of_getElem? (i := 157) rfl)) rfl
theorem wm_3_158 : (Jvm.Cond.static ({ cls := "GridmenderLaw", name := "multiply", desc := "(LGridmender;IIILGridmenderLaw$Out;)I" } : Jvm.MethodName)) ∈ wAll := wAll_in (tb_3 (List.mem_of_getElem? (i := 158) rfl)) rfl
theorem wm_3_159 : (Jvm.Cond.codeWith ({ cls := "GridmenderLaw", name := "multiply", desc := "(LGridmender;IIILGridmenderLaw$Out;)I" } : Jvm.MethodName) method_15_code (6 : Nat) (Option.some Jvm.ClassFile.FieldType.int) [((0 : Nat), (13 : Nat), (16 : Nat), (19 : Nat))]) ∈ wAll := wAll_in (tb_3 (List.mem_of_getElem? (i := 159) rfl)) rfl
theorem wm_3_160 : (Jvm.Cond.methodLink "GridmenderLaw" (67 : Nat) ({ cls := "Gridmender", name := "multiply", desc := "(III)I" } : Jvm.MethodName)) ∈ wAll := wAll_in (tb_3 (List.mem_of_getElem? (i := 160) rfl)) rfl
theorem wm_3_161 : (Jvm.Cond.instanceMethod ({ cls := "Gridmender", name := "multiply", desc := "(III)I" } : Jvm.MethodName)) ∈ wAll := wAll_in (tb_3 (List.mem_of_getElem? (i := 161) rfl)) rfl
theorem wm_3_162 : (Jvm.Cond.selects "Gridmender" ({ cls := "Gridmender", name := "multiply", desc := "(III)I" } : Jvm.MethodName) ({ cls := "Gridmender", name := "multiply", desc := "(III)I" } : Jvm.MethodName)) ∈ wAll := wAll_in (tb_3 (List.mem_of_getElem? (i := 162) rfl)) rfl
theorem wm_3_163 : (Jvm.Cond.code ({ cls := "Gridmender", name := "multiply", desc := "(III)I" } : Jvm.MethodName) prog_1_method_15_code (7 : Nat) (Option.some Jvm.ClassFile.FieldType.int)) ∈ wAll := wAll_in (tb_3 (List.mem_of_getElem? (i := 163) rfl)) rfl
theorem wm_3_164 : (Jvm.Cond.methodLink "GridmenderLaw" (189 : Nat) ({ cls := "GridmenderLaw", name := "take", desc := "(LGridmender;IIILGridmenderLaw$Out;)I" } : Jvm.MethodName)) ∈ wAll := wAll_in (tb_3 (List.mem_of_getElem? (i := 164) rfl)) rfl
theorem wm_3_165 : (Jvm.Cond.static ({ cls := "GridmenderLaw", name := "take", desc := "(LGridmender;IIILGridmenderLaw$Out;)I" } : Jvm.MethodName)) ∈ wAll := wAll_in (tb_3 (List.mem_of_getElem? (i := 165) rfl)) rfl
theorem wm_3_166 : (Jvm.Cond.codeWith ({ cls := "GridmenderLaw", name := "take", desc := "(LGridmender;IIILGridmenderLaw$Out;)I" } : Jvm.MethodName) method_16_code (6 : Nat) (Option.some Jvm.ClassFile.FieldType.int) [((0 : Nat), (13 : Nat), (16 : Nat), (19 : Nat)), ((0 : Nat), (13 : Nat), (20 : Nat), (21 : Nat))]) ∈ wAll := wAll_in (tb_3 (List.mem_of_getElem? (i := 166) rfl)) rfl
theorem wm_3_167 : (Jvm.Cond.methodLink "GridmenderLaw" (70 : Nat) ({ cls := "Gridmender", name := "take", desc := "(III)I" } : Jvm.MethodName)) ∈ wAll := wAll_in (tb_3 (List.mem_of_getElem? (i := 167) rfl)) rfl
theorem wm_3_168 : (Jvm.Cond.instanceMethod ({ cls := "Gridmender", name := "take", desc := "(III)I" } : Jvm.MethodName)) ∈ wAll := wAll_in (tb_3 (List.mem_of_getElem? (i := 168) rfl)) rfl
theorem wm_3_169 : (Jvm.Cond.selects "Gridmender" ({ cls := "Gridmender", name := "take", desc := "(III)I" } : Jvm.MethodName) ({ cls := "Gridmender", name := "take", desc := "(III)I" } : Jvm.MethodName)) ∈ wAll := wAll_in (tb_3 (List.mem_of_getElem? (i := 169) rfl)) rfl
theorem wm_3_170 : (Jvm.Cond.code ({ cls := "Gridmender", name := "take", desc := "(III)I" } : Jvm.MethodName) prog_1_method_16_code (7 : Nat) (Option.some Jvm.ClassFile.FieldType.int)) ∈ wAll := wAll_in (tb_3 (List.mem_of_getElem? (i := 170) rfl)) rfl
theorem wm_3_171 : (Jvm.Cond.methodLink "Gridmender" (146 : Nat) ({ cls := "Gridmender", name := "isForm", desc := "(I)Z" } : Jvm.MethodName)) ∈ wAll := wAll_in (tb_3 (List.mem_of_getElem? (i := 171) rfl)) rfl
theorem wm_3_172 : (Jvm.Cond.static ({ cls := "Gridmender", name := "isForm", desc := "(I)Z" } : Jvm.MethodName)) ∈ wAll := wAll_in (tb_3 (List.mem_of_getElem? (i := 172) rfl)) rfl
theorem wm_3_173 : (Jvm.Cond.code ({ cls := "Gridmender", name := "isForm", desc := "(I)Z" } : Jvm.MethodName) prog_1_method_41_code (1 : Nat) (Option.some Jvm.ClassFile.FieldType.boolean)) ∈ wAll := wAll_in (tb_3 (List.mem_of_getElem? (i := 173) rfl)) rfl
theorem wm_3_174 : (Jvm.Cond.methodLink "Gridmender" (149 : Nat) ({ cls := "Gridmender", name := "findForm", desc := "(LGridmender$Grid;I)LGridmender$Grid;" } : Jvm.MethodName)) ∈ wAll := wAll_in (tb_3 (List.mem_of_getElem? (i := 174) rfl)) rfl
theorem wn_3_175 : (Jvm.Cond.privateMethod ({ cls := "Gridmender", name := "findForm", desc := "(LGridmender$Grid;I)LGridmender$Grid;" } : Jvm.MethodName)) ∈ wNest := wNest_in (tb_3 (List.mem_of_getElem? (i := 175) rfl)) rfl
theorem wm_3_176 : (Jvm.Cond.instanceMethod ({ cls := "Gridmender", name := "findForm", desc := "(LGridmender$Grid;I)LGridmender$Grid;" } : Jvm.MethodName)) ∈ wAll := wAll_in (tb_3 (List.mem_of_getElem? (i := 176) rfl)) rfl
theorem wm_3_177 : (Jvm.Cond.code ({ cls := "Gridmender", name := "findForm", desc := "(LGridmender$Grid;I)LGridmender$Grid;" } : Jvm.MethodName) prog_1_method_46_code (3 : Nat) (Option.some (Jvm.ClassFile.FieldType.object "Gridmender$Grid"))) ∈ wAll := wAll_in (tb_3 (List.mem_of_getElem? (i := 177) rfl)) rfl
theorem wm_3_178 : (Jvm.Cond.methodLink "GridmenderLaw" (192 : Nat) ({ cls := "GridmenderLaw", name := "solve", desc := "(LGridmender;IIIILGridmenderLaw$Out;)I" } : Jvm.MethodName)) ∈ wAll := wAll_in (tb_3 (List.mem_of_getElem? (i := 178) rfl)) rfl
theorem wm_3_179 : (Jvm.Cond.static ({ cls := "GridmenderLaw", name := "solve", desc := "(LGridmender;IIIILGridmenderLaw$Out;)I" } : Jvm.MethodName)) ∈ wAll := wAll_in (tb_3 (List.mem_of_getElem? (i := 179) rfl)) rfl
theorem wm_3_180 : (Jvm.Cond.codeWith ({ cls := "GridmenderLaw", name := "solve", desc := "(LGridmender;IIIILGridmenderLaw$Out;)I" } : Jvm.MethodName) method_17_code (7 : Nat) (Option.some Jvm.ClassFile.FieldType.int) [((0 : Nat), (15 : Nat), (18 : Nat), (19 : Nat))]) ∈ wAll := wAll_in (tb_3 (List.mem_of_getElem? (i := 180) rfl)) rfl
theorem wm_3_181 : (Jvm.Cond.methodLink "GridmenderLaw" (73 : Nat) ({ cls := "Gridmender", name := "solve", desc := "(IIII)I" } : Jvm.MethodName)) ∈ wAll := wAll_in (tb_3 (List.mem_of_getElem? (i := 181) rfl)) rfl
theorem wm_3_182 : (Jvm.Cond.instanceMethod ({ cls := "Gridmender", name := "solve", desc := "(IIII)I" } : Jvm.MethodName)) ∈ wAll := wAll_in (tb_3 (List.mem_of_getElem? (i := 182) rfl)) rfl
theorem wm_3_183 : (Jvm.Cond.selects "Gridmender" ({ cls := "Gridmender", name := "solve", desc := "(IIII)I" } : Jvm.MethodName) ({ cls := "Gridmender", name := "solve", desc := "(IIII)I" } : Jvm.MethodName)) ∈ wAll := wAll_in (tb_3 (List.mem_of_getElem? (i := 183) rfl)) rfl
theorem wm_3_184 : (Jvm.Cond.code ({ cls := "Gridmender", name := "solve", desc := "(IIII)I" } : Jvm.MethodName) prog_1_method_17_code (8 : Nat) (Option.some Jvm.ClassFile.FieldType.int)) ∈ wAll := wAll_in (tb_3 (List.mem_of_getElem? (i := 184) rfl)) rfl
theorem wm_3_185 : (Jvm.Cond.methodLink "Gridmender" (160 : Nat) ({ cls := "Gridmender$Equation", name := "divide", desc := "(LGridmender$DiagonalSteps;LGridmender$Grid;I)Z" } : Jvm.MethodName)) ∈ wAll := wAll_in (tb_3 (List.mem_of_getElem? (i := 185) rfl)) rfl
theorem wm_3_186 : (Jvm.Cond.instanceMethod ({ cls := "Gridmender$Equation", name := "divide", desc := "(LGridmender$DiagonalSteps;LGridmender$Grid;I)Z" } : Jvm.MethodName)) ∈ wAll := wAll_in (tb_3 (List.mem_of_getElem? (i := 186) rfl)) rfl
theorem wm_3_187 : (Jvm.Cond.selects "Gridmender$Equation" ({ cls := "Gridmender$Equation", name := "divide", desc := "(LGridmender$DiagonalSteps;LGridmender$Grid;I)Z" } : Jvm.MethodName) ({ cls := "Gridmender$Equation", name := "divide", desc := "(LGridmender$DiagonalSteps;LGridmender$Grid;I)Z" } : Jvm.MethodName)) ∈ wAll := wAll_in (tb_3 (List.mem_of_getElem? (i := 187) rfl)) rfl
theorem wm_3_188 : (Jvm.Cond.code ({ cls := "Gridmender$Equation", name := "divide", desc := "(LGridmender$DiagonalSteps;LGridmender$Grid;I)Z" } : Jvm.MethodName) prog_4_method_2_code (8 : Nat) (Option.some Jvm.ClassFile.FieldType.boolean)) ∈ wAll := wAll_in (tb_3 (List.mem_of_getElem? (i := 188) rfl)) rfl
theorem wm_3_189 : (Jvm.Cond.methodLink "Gridmender$Equation" (27 : Nat) ({ cls := "Gridmender$Grid", name := "becomeColumn", desc := "(LGridmender$Grid;I)V" } : Jvm.MethodName)) ∈ wAll := wAll_in (tb_3 (List.mem_of_getElem? (i := 189) rfl)) rfl
theorem wm_3_190 : (Jvm.Cond.instanceMethod ({ cls := "Gridmender$Grid", name := "becomeColumn", desc := "(LGridmender$Grid;I)V" } : Jvm.MethodName)) ∈ wAll := wAll_in (tb_3 (List.mem_of_getElem? (i := 190) rfl)) rfl
theorem wm_3_191 : (Jvm.Cond.selects "Gridmender$Grid" ({ cls := "Gridmender$Grid", name := "becomeColumn", desc := "(LGridmender$Grid;I)V" } : Jvm.MethodName) ({ cls := "Gridmender$Grid", name := "becomeColumn", desc := "(LGridmender$Grid;I)V" } : Jvm.MethodName)) ∈ wAll := wAll_in (tb_3 (List.mem_of_getElem? (i := 191) rfl)) rfl
theorem wm_3_192 : (Jvm.Cond.code ({ cls := "Gridmender$Grid", name := "becomeColumn", desc := "(LGridmender$Grid;I)V" } : Jvm.MethodName) prog_5_method_10_code (4 : Nat) (Option.none : Option Jvm.ClassFile.FieldType)) ∈ wAll := wAll_in (tb_3 (List.mem_of_getElem? (i := 192) rfl)) rfl
theorem wm_3_193 : (Jvm.Cond.methodLink "Gridmender$Equation" (36 : Nat) ({ cls := "Gridmender$Grid", name := "becomeProduct", desc := "(LGridmender$Grid;LGridmender$Grid;)V" } : Jvm.MethodName)) ∈ wAll := wAll_in (tb_3 (List.mem_of_getElem? (i := 193) rfl)) rfl
theorem wm_3_194 : (Jvm.Cond.methodLink "Gridmender$Equation" (47 : Nat) ({ cls := "Gridmender$Grid", name := "reshape", desc := "(II)V" } : Jvm.MethodName)) ∈ wAll := wAll_in (tb_3 (List.mem_of_getElem? (i := 194) rfl)) rfl
theorem wm_3_195 : (Jvm.Cond.methodLink "Gridmender$Equation" (51 : Nat) ({ cls := "Gridmender$DiagonalSteps", name := "countRank", desc := "()I" } : Jvm.MethodName)) ∈ wAll := wAll_in (tb_3 (List.mem_of_getElem? (i := 195) rfl)) rfl
theorem wm_3_196 : (Jvm.Cond.instanceMethod ({ cls := "Gridmender$DiagonalSteps", name := "countRank", desc := "()I" } : Jvm.MethodName)) ∈ wAll := wAll_in (tb_3 (List.mem_of_getElem? (i := 196) rfl)) rfl
theorem wm_3_197 : (Jvm.Cond.selects "Gridmender$DiagonalSteps" ({ cls := "Gridmender$DiagonalSteps", name := "countRank", desc := "()I" } : Jvm.MethodName) ({ cls := "Gridmender$DiagonalSteps", name := "countRank", desc := "()I" } : Jvm.MethodName)) ∈ wAll := wAll_in (tb_3 (List.mem_of_getElem? (i := 197) rfl)) rfl
theorem wm_3_198 : (Jvm.Cond.code ({ cls := "Gridmender$DiagonalSteps", name := "countRank", desc := "()I" } : Jvm.MethodName) prog_3_method_10_code (3 : Nat) (Option.some Jvm.ClassFile.FieldType.int)) ∈ wAll := wAll_in (tb_3 (List.mem_of_getElem? (i := 198) rfl)) rfl
theorem wm_3_199 : (Jvm.Cond.methodLink "Gridmender$Equation" (58 : Nat) ({ cls := "Gridmender$Grid", name := "get", desc := "(II)J" } : Jvm.MethodName)) ∈ wAll := wAll_in (tb_3 (List.mem_of_getElem? (i := 199) rfl)) rfl
theorem wn_3_200 : (Jvm.Cond.methodLinkNest "Gridmender$Equation" (62 : Nat) ({ cls := "Gridmender", name := "divides", desc := "(JJ)Z" } : Jvm.MethodName) "Gridmender") ∈ wNest := wNest_in (tb_3 (List.mem_of_getElem? (i := 200) rfl)) rfl
theorem wn_3_201 : (Jvm.Cond.methodLinkNest "Gridmender$Equation" (66 : Nat) ({ cls := "Gridmender", name := "divideDown", desc := "(JJ)J" } : Jvm.MethodName) "Gridmender") ∈ wNest := wNest_in (tb_3 (List.mem_of_getElem? (i := 201) rfl)) rfl
theorem wm_3_202 : (Jvm.Cond.methodLink "Gridmender$Equation" (70 : Nat) ({ cls := "Gridmender$Grid", name := "set", desc := "(IIJ)V" } : Jvm.MethodName)) ∈ wAll := wAll_in (tb_3 (List.mem_of_getElem? (i := 202) rfl)) rfl
theorem wm_3_203 : (Jvm.Cond.methodLink "Gridmender" (164 : Nat) ({ cls := "Gridmender$Equation", name := "findSolution", desc := "(LGridmender$DiagonalSteps;)Z" } : Jvm.MethodName)) ∈ wAll := wAll_in (tb_3 (List.mem_of_getElem? (i := 203) rfl)) rfl
theorem wm_3_204 : (Jvm.Cond.instanceMethod ({ cls := "Gridmender$Equation", name := "findSolution", desc := "(LGridmender$DiagonalSteps;)Z" } : Jvm.MethodName)) ∈ wAll := wAll_in (tb_3 (List.mem_of_getElem? (i := 204) rfl)) rfl
theorem wm_3_205 : (Jvm.Cond.selects "Gridmender$Equation" ({ cls := "Gridmender$Equation", name := "findSolution", desc := "(LGridmender$DiagonalSteps;)Z" } : Jvm.MethodName) ({ cls := "Gridmender$Equation", name := "findSolution", desc := "(LGridmender$DiagonalSteps;)Z" } : Jvm.MethodName)) ∈ wAll := wAll_in (tb_3 (List.mem_of_getElem? (i := 205) rfl)) rfl
theorem wm_3_206 : (Jvm.Cond.code ({ cls := "Gridmender$Equation", name := "findSolution", desc := "(LGridmender$DiagonalSteps;)Z" } : Jvm.MethodName) prog_4_method_3_code (2 : Nat) (Option.some Jvm.ClassFile.FieldType.boolean)) ∈ wAll := wAll_in (tb_3 (List.mem_of_getElem? (i := 206) rfl)) rfl
theorem wm_3_207 : (Jvm.Cond.constantLong "Gridmender$Equation" (74 : Nat) (1000000000 : Int64)) ∈ wAll := wAll_in (tb_3 (List.mem_of_getElem? (i := 207) rfl)) rfl
theorem wm_3_208 : (Jvm.Cond.methodLink "Gridmender$Equation" (76 : Nat) ({ cls := "Gridmender$Grid", name := "isWithin", desc := "(J)Z" } : Jvm.MethodName)) ∈ wAll := wAll_in (tb_3 (List.mem_of_getElem? (i := 208) rfl)) rfl
theorem wm_3_209 : (Jvm.Cond.methodLink "GridmenderLaw" (199 : Nat) ({ cls := "GridmenderLaw", name := "shape", desc := "(LGridmender;IZLGridmenderLaw$Out;)I" } : Jvm.MethodName)) ∈ wAll := wAll_in (tb_3 (List.mem_of_getElem? (i := 209) rfl)) rfl
theorem wm_3_210 : (Jvm.Cond.static ({ cls := "GridmenderLaw", name := "shape", desc := "(LGridmender;IZLGridmenderLaw$Out;)I" } : Jvm.MethodName)) ∈ wAll := wAll_in (tb_3 (List.mem_of_getElem? (i := 210) rfl)) rfl
theorem wm_3_211 : (Jvm.Cond.codeWith ({ cls := "GridmenderLaw", name := "shape", desc := "(LGridmender;IZLGridmenderLaw$Out;)I" } : Jvm.MethodName) method_18_code (5 : Nat) (Option.some Jvm.ClassFile.FieldType.int) [((0 : Nat), (11 : Nat), (14 : Nat), (19 : Nat))]) ∈ wAll := wAll_in (tb_3 (List.mem_of_getElem? (i := 211) rfl)) rfl
theorem wm_3_212 : (Jvm.Cond.methodLink "GridmenderLaw" (76 : Nat) ({ cls := "Gridmender", name := "shape", desc := "(IZ)I" } : Jvm.MethodName)) ∈ wAll := wAll_in (tb_3 (List.mem_of_getElem? (i := 212) rfl)) rfl
theorem wm_3_213 : (Jvm.Cond.instanceMethod ({ cls := "Gridmender", name := "shape", desc := "(IZ)I" } : Jvm.MethodName)) ∈ wAll := wAll_in (tb_3 (List.mem_of_getElem? (i := 213) rfl)) rfl
theorem wm_3_214 : (Jvm.Cond.selects "Gridmender" ({ cls := "Gridmender", name := "shape", desc := "(IZ)I" } : Jvm.MethodName) ({ cls := "Gridmender", name := "shape", desc := "(IZ)I" } : Jvm.MethodName)) ∈ wAll := wAll_in (tb_3 (List.mem_of_getElem? (i := 214) rfl)) rfl
theorem wm_3_215 : (Jvm.Cond.code ({ cls := "Gridmender", name := "shape", desc := "(IZ)I" } : Jvm.MethodName) prog_1_method_18_code (3 : Nat) (Option.some Jvm.ClassFile.FieldType.int)) ∈ wAll := wAll_in (tb_3 (List.mem_of_getElem? (i := 215) rfl)) rfl
theorem wm_3_216 : (Jvm.Cond.methodLink "GridmenderLaw" (202 : Nat) ({ cls := "GridmenderLaw", name := "at", desc := "(LGridmender;IIILGridmenderLaw$Out;)I" } : Jvm.MethodName)) ∈ wAll := wAll_in (tb_3 (List.mem_of_getElem? (i := 216) rfl)) rfl
theorem wm_3_217 : (Jvm.Cond.static ({ cls := "GridmenderLaw", name := "at", desc := "(LGridmender;IIILGridmenderLaw$Out;)I" } : Jvm.MethodName)) ∈ wAll := wAll_in (tb_3 (List.mem_of_getElem? (i := 217) rfl)) rfl
theorem wm_3_218 : (Jvm.Cond.codeWith ({ cls := "GridmenderLaw", name := "at", desc := "(LGridmender;IIILGridmenderLaw$Out;)I" } : Jvm.MethodName) method_19_code (6 : Nat) (Option.some Jvm.ClassFile.FieldType.int) [((0 : Nat), (13 : Nat), (16 : Nat), (19 : Nat))]) ∈ wAll := wAll_in (tb_3 (List.mem_of_getElem? (i := 218) rfl)) rfl
theorem wm_3_219 : (Jvm.Cond.methodLink "GridmenderLaw" (79 : Nat) ({ cls := "Gridmender", name := "at", desc := "(III)I" } : Jvm.MethodName)) ∈ wAll := wAll_in (tb_3 (List.mem_of_getElem? (i := 219) rfl)) rfl
theorem wm_3_220 : (Jvm.Cond.instanceMethod ({ cls := "Gridmender", name := "at", desc := "(III)I" } : Jvm.MethodName)) ∈ wAll := wAll_in (tb_3 (List.mem_of_getElem? (i := 220) rfl)) rfl
theorem wm_3_221 : (Jvm.Cond.selects "Gridmender" ({ cls := "Gridmender", name := "at", desc := "(III)I" } : Jvm.MethodName) ({ cls := "Gridmender", name := "at", desc := "(III)I" } : Jvm.MethodName)) ∈ wAll := wAll_in (tb_3 (List.mem_of_getElem? (i := 221) rfl)) rfl
theorem wm_3_222 : (Jvm.Cond.code ({ cls := "Gridmender", name := "at", desc := "(III)I" } : Jvm.MethodName) prog_1_method_19_code (5 : Nat) (Option.some Jvm.ClassFile.FieldType.int)) ∈ wAll := wAll_in (tb_3 (List.mem_of_getElem? (i := 222) rfl)) rfl
theorem wm_3_223 : (Jvm.Cond.methodLink "GridmenderLaw" (205 : Nat) ({ cls := "GridmenderLaw", name := "text", desc := "(LGridmender;ILGridmenderLaw$Out;)I" } : Jvm.MethodName)) ∈ wAll := wAll_in (tb_3 (List.mem_of_getElem? (i := 223) rfl)) rfl
theorem wm_3_224 : (Jvm.Cond.static ({ cls := "GridmenderLaw", name := "text", desc := "(LGridmender;ILGridmenderLaw$Out;)I" } : Jvm.MethodName)) ∈ wAll := wAll_in (tb_3 (List.mem_of_getElem? (i := 224) rfl)) rfl
theorem wm_3_225 : (Jvm.Cond.codeWith ({ cls := "GridmenderLaw", name := "text", desc := "(LGridmender;ILGridmenderLaw$Out;)I" } : Jvm.MethodName) method_20_code (4 : Nat) (Option.some Jvm.ClassFile.FieldType.int) [((0 : Nat), (9 : Nat), (12 : Nat), (19 : Nat))]) ∈ wAll := wAll_in (tb_3 (List.mem_of_getElem? (i := 225) rfl)) rfl
theorem wm_3_226 : (Jvm.Cond.methodLink "GridmenderLaw" (82 : Nat) ({ cls := "Gridmender", name := "text", desc := "(I)Ljava/lang/String;" } : Jvm.MethodName)) ∈ wAll := wAll_in (tb_3 (List.mem_of_getElem? (i := 226) rfl)) rfl
theorem wm_3_227 : (Jvm.Cond.instanceMethod ({ cls := "Gridmender", name := "text", desc := "(I)Ljava/lang/String;" } : Jvm.MethodName)) ∈ wAll := wAll_in (tb_3 (List.mem_of_getElem? (i := 227) rfl)) rfl
theorem wm_3_228 : (Jvm.Cond.selects "Gridmender" ({ cls := "Gridmender", name := "text", desc := "(I)Ljava/lang/String;" } : Jvm.MethodName) ({ cls := "Gridmender", name := "text", desc := "(I)Ljava/lang/String;" } : Jvm.MethodName)) ∈ wAll := wAll_in (tb_3 (List.mem_of_getElem? (i := 228) rfl)) rfl
theorem wm_3_229 : (Jvm.Cond.code ({ cls := "Gridmender", name := "text", desc := "(I)Ljava/lang/String;" } : Jvm.MethodName) prog_1_method_20_code (6 : Nat) (Option.some (Jvm.ClassFile.FieldType.object "java/lang/String"))) ∈ wAll := wAll_in (tb_3 (List.mem_of_getElem? (i := 229) rfl)) rfl
theorem wm_3_230 : (Jvm.Cond.classLink "Gridmender" (171 : Nat) "java/lang/StringBuilder") ∈ wAll := wAll_in (tb_3 (List.mem_of_getElem? (i := 230) rfl)) rfl
theorem wm_3_231 : (Jvm.Cond.instantiable "java/lang/StringBuilder" (4 : Nat)) ∈ wAll := wAll_in (tb_3 (List.mem_of_getElem? (i := 231) rfl)) rfl
theorem wm_3_232 : (Jvm.Cond.methodLink "Gridmender" (173 : Nat) ({ cls := "java/lang/StringBuilder", name := "<init>", desc := "()V" } : Jvm.MethodName)) ∈ wAll := wAll_in (tb_3 (List.mem_of_getElem? (i := 232) rfl)) rfl
theorem wm_3_233 : (Jvm.Cond.instanceMethod ({ cls := "java/lang/StringBuilder", name := "<init>", desc := "()V" } : Jvm.MethodName)) ∈ wAll := wAll_in (tb_3 (List.mem_of_getElem? (i := 233) rfl)) rfl
theorem wm_3_234 : (Jvm.Cond.code ({ cls := "java/lang/StringBuilder", name := "<init>", desc := "()V" } : Jvm.MethodName) prog_24_method_1_code (1 : Nat) (Option.none : Option Jvm.ClassFile.FieldType)) ∈ wAll := wAll_in (tb_3 (List.mem_of_getElem? (i := 234) rfl)) rfl
theorem wm_3_235 : (Jvm.Cond.methodLink "java/lang/StringBuilder" (1 : Nat) ({ cls := "java/lang/AbstractStringBuilder", name := "<init>", desc := "(I)V" } : Jvm.MethodName)) ∈ wAll := wAll_in (tb_3 (List.mem_of_getElem? (i := 235) rfl)) rfl
theorem wm_3_236 : (Jvm.Cond.instanceMethod ({ cls := "java/lang/AbstractStringBuilder", name := "<init>", desc := "(I)V" } : Jvm.MethodName)) ∈ wAll := wAll_in (tb_3 (List.mem_of_getElem? (i := 236) rfl)) rfl
theorem wm_3_237 : (Jvm.Cond.code ({ cls := "java/lang/AbstractStringBuilder", name := "<init>", desc := "(I)V" } : Jvm.MethodName) prog_13_method_2_code (2 : Nat) (Option.none : Option Jvm.ClassFile.FieldType)) ∈ wAll := wAll_in (tb_3 (List.mem_of_getElem? (i := 237) rfl)) rfl
theorem wm_3_238 : (Jvm.Cond.methodLink "java/lang/AbstractStringBuilder" (3 : Nat) ({ cls := "java/lang/Object", name := "<init>", desc := "()V" } : Jvm.MethodName)) ∈ wAll := wAll_in (tb_3 (List.mem_of_getElem? (i := 238) rfl)) rfl
theorem wm_3_239 : (Jvm.Cond.fieldLink "java/lang/AbstractStringBuilder" (18 : Nat) "java/lang/String" "COMPACT_STRINGS" "Z") ∈ wAll := wAll_in (tb_3 (List.mem_of_getElem? (i := 239) rfl)) rfl
theorem wt_4_0 : (Jvm.Cond.laysStatic "java/lang/String" "COMPACT_STRINGS" "Z") ∈ lw_tbl := tb_4 (List.mem_of_getElem? (i := 0) rfl)
theorem wm_4_1 : (Jvm.Cond.methodLink "java/lang/AbstractStringBuilder" (26 : Nat) ({ cls := "java/lang/StringUTF16", name := "newBytesFor", desc := "(I)[B" } : Jvm.MethodName)) ∈ wAll := wAll_in (tb_4 (List.mem_of_getElem? (i := 1) rfl)) rfl
theorem wm_4_2 : (Jvm.Cond.static ({ cls := "java/lang/StringUTF16", name := "newBytesFor", desc := "(I)[B" } : Jvm.MethodName)) ∈ wAll := wAll_in (tb_4 (List.mem_of_getElem? (i := 2) rfl)) rfl
theorem wm_4_3 : (Jvm.Cond.code ({ cls := "java/lang/StringUTF16", name := "newBytesFor", desc := "(I)[B" } : Jvm.MethodName) prog_26_method_2_code (1 : Nat) (Option.some (Jvm.ClassFile.FieldType.array Jvm.ClassFile.FieldType.byte))) ∈ wAll := wAll_in (tb_4 (List.mem_of_getElem? (i := 3) rfl)) rfl
theorem wm_4_4 : (Jvm.Cond.methodLink "java/lang/StringUTF16" (11 : Nat) ({ cls := "java/lang/StringUTF16", name := "newBytesLength", desc := "(I)I" } : Jvm.MethodName)) ∈ wAll := wAll_in (tb_4 (List.mem_of_getElem? (i := 4) rfl)) rfl
theorem wm_4_5 : (Jvm.Cond.static ({ cls := "java/lang/StringUTF16", name := "newBytesLength", desc := "(I)I" } : Jvm.MethodName)) ∈ wAll := wAll_in (tb_4 (List.mem_of_getElem? (i := 5) rfl)) rfl
theorem wm_4_6 : (Jvm.Cond.code ({ cls := "java/lang/StringUTF16", name := "newBytesLength", desc := "(I)I" } : Jvm.MethodName) prog_26_method_3_code (1 : Nat) (Option.some Jvm.ClassFile.FieldType.int)) ∈ wAll := wAll_in (tb_4 (List.mem_of_getElem? (i := 6) rfl)) rfl
theorem wm_4_7 : (Jvm.Cond.constant "java/lang/StringUTF16" (20 : Nat) (1073741823 : Int32)) ∈ wAll := wAll_in (tb_4 (List.mem_of_getElem? (i := 7) rfl)) rfl
theorem wm_4_8 : (Jvm.Cond.fieldLink "java/lang/AbstractStringBuilder" (15 : Nat) "java/lang/AbstractStringBuilder" "value" "[B") ∈ wAll := wAll_in (tb_4 (List.mem_of_getElem? (i := 8) rfl)) rfl
theorem wm_4_9 : (Jvm.Cond.fieldLink "java/lang/AbstractStringBuilder" (22 : Nat) "java/lang/AbstractStringBuilder" "coder" "B") ∈ wAll := wAll_in (tb_4 (List.mem_of_getElem? (i := 9) rfl)) rfl
theorem wm_4_10 : (Jvm.Cond.fieldLink "java/lang/String" (1048 : Nat) "java/lang/AbstractStringBuilder" "maybeLatin1" "Z") ∈ wAll := wAll_in (tb_4 (List.mem_of_getElem? (i := 10) rfl)) rfl
theorem wm_4_11 : (Jvm.Cond.fieldLink "java/lang/AbstractStringBuilder" (79 : Nat) "java/lang/AbstractStringBuilder" "count" "I") ∈ wAll := wAll_in (tb_4 (List.mem_of_getElem? (i := 11) rfl)) rfl
theorem wm_4_20 : (Jvm.Cond.superclass "java/lang/StringBuilder" "java/lang/AbstractStringBuilder") ∈ wAll := wAll_in (tb_4 (List.mem_of_getElem? (i := 20) rfl)) rfl
theorem wm_4_21 : (Jvm.Cond.methodLink "Gridmender" (174 : Nat) ({ cls := "java/lang/StringBuilder", name := "append", desc := "(C)Ljava/lang/StringBuilder;" } : Jvm.MethodName)) ∈ wAll := wAll_in (tb_4 (List.mem_of_getElem? (i := 21) rfl)) rfl
theorem wm_4_22 : (Jvm.Cond.instanceMethod ({ cls := "java/lang/StringBuilder", name := "append", desc := "(C)Ljava/lang/StringBuilder;" } : Jvm.MethodName)) ∈ wAll := wAll_in (tb_4 (List.mem_of_getElem? (i := 22) rfl)) rfl
theorem wm_4_23 : (Jvm.Cond.selects "java/lang/StringBuilder" ({ cls := "java/lang/StringBuilder", name := "append", desc := "(C)Ljava/lang/StringBuilder;" } : Jvm.MethodName) ({ cls := "java/lang/StringBuilder", name := "append", desc := "(C)Ljava/lang/StringBuilder;" } : Jvm.MethodName)) ∈ wAll := wAll_in (tb_4 (List.mem_of_getElem? (i := 23) rfl)) rfl
theorem wm_4_24 : (Jvm.Cond.code ({ cls := "java/lang/StringBuilder", name := "append", desc := "(C)Ljava/lang/StringBuilder;" } : Jvm.MethodName) prog_24_method_14_code (2 : Nat) (Option.some (Jvm.ClassFile.FieldType.object "java/lang/StringBuilder"))) ∈ wAll := wAll_in (tb_4 (List.mem_of_getElem? (i := 24) rfl)) rfl
theorem wm_4_25 : (Jvm.Cond.methodLink "java/lang/StringBuilder" (50 : Nat) ({ cls := "java/lang/AbstractStringBuilder", name := "append", desc := "(C)Ljava/lang/AbstractStringBuilder;" } : Jvm.MethodName)) ∈ wAll := wAll_in (tb_4 (List.mem_of_getElem? (i := 25) rfl)) rfl
theorem wm_4_26 : (Jvm.Cond.instanceMethod ({ cls := "java/lang/AbstractStringBuilder", name := "append", desc := "(C)Ljava/lang/AbstractStringBuilder;" } : Jvm.MethodName)) ∈ wAll := wAll_in (tb_4 (List.mem_of_getElem? (i := 26) rfl)) rfl
theorem wm_4_27 : (Jvm.Cond.code ({ cls := "java/lang/AbstractStringBuilder", name := "append", desc := "(C)Ljava/lang/AbstractStringBuilder;" } : Jvm.MethodName) prog_13_method_31_code (2 : Nat) (Option.some (Jvm.ClassFile.FieldType.object "java/lang/AbstractStringBuilder"))) ∈ wAll := wAll_in (tb_4 (List.mem_of_getElem? (i := 27) rfl)) rfl
theorem wm_4_28 : (Jvm.Cond.methodLink "java/lang/AbstractStringBuilder" (100 : Nat) ({ cls := "java/lang/AbstractStringBuilder", name := "ensureCapacityInternal", desc := "(I)V" } : Jvm.MethodName)) ∈ wAll := wAll_in (tb_4 (List.mem_of_getElem? (i := 28) rfl)) rfl
theorem wn_4_29 : (Jvm.Cond.privateMethod ({ cls := "java/lang/AbstractStringBuilder", name := "ensureCapacityInternal", desc := "(I)V" } : Jvm.MethodName)) ∈ wNest := wNest_in (tb_4 (List.mem_of_getElem? (i := 29) rfl)) rfl
theorem wm_4_30 : (Jvm.Cond.instanceMethod ({ cls := "java/lang/AbstractStringBuilder", name := "ensureCapacityInternal", desc := "(I)V" } : Jvm.MethodName)) ∈ wAll := wAll_in (tb_4 (List.mem_of_getElem? (i := 30) rfl)) rfl
theorem wm_4_31 : (Jvm.Cond.code ({ cls := "java/lang/AbstractStringBuilder", name := "ensureCapacityInternal", desc := "(I)V" } : Jvm.MethodName) prog_13_method_9_code (3 : Nat) (Option.none : Option Jvm.ClassFile.FieldType)) ∈ wAll := wAll_in (tb_4 (List.mem_of_getElem? (i := 31) rfl)) rfl
theorem wm_4_32 : (Jvm.Cond.methodLink "java/lang/AbstractStringBuilder" (104 : Nat) ({ cls := "java/lang/AbstractStringBuilder", name := "newCapacity", desc := "(I)I" } : Jvm.MethodName)) ∈ wAll := wAll_in (tb_4 (List.mem_of_getElem? (i := 32) rfl)) rfl
theorem wn_4_33 : (Jvm.Cond.privateMethod ({ cls := "java/lang/AbstractStringBuilder", name := "newCapacity", desc := "(I)I" } : Jvm.MethodName)) ∈ wNest := wNest_in (tb_4 (List.mem_of_getElem? (i := 33) rfl)) rfl
theorem wm_4_34 : (Jvm.Cond.instanceMethod ({ cls := "java/lang/AbstractStringBuilder", name := "newCapacity", desc := "(I)I" } : Jvm.MethodName)) ∈ wAll := wAll_in (tb_4 (List.mem_of_getElem? (i := 34) rfl)) rfl
theorem wm_4_35 : (Jvm.Cond.code ({ cls := "java/lang/AbstractStringBuilder", name := "newCapacity", desc := "(I)I" } : Jvm.MethodName) prog_13_method_10_code (6 : Nat) (Option.some Jvm.ClassFile.FieldType.int)) ∈ wAll := wAll_in (tb_4 (List.mem_of_getElem? (i := 35) rfl)) rfl
theorem wm_4_36 : (Jvm.Cond.methodLink "java/lang/AbstractStringBuilder" (114 : Nat) ({ cls := "jdk/internal/util/ArraysSupport", name := "newLength", desc := "(III)I" } : Jvm.MethodName)) ∈ wAll := wAll_in (tb_4 (List.mem_of_getElem? (i := 36) rfl)) rfl
theorem wm_4_37 : (Jvm.Cond.static ({ cls := "jdk/internal/util/ArraysSupport", name := "newLength", desc := "(III)I" } : Jvm.MethodName)) ∈ wAll := wAll_in (tb_4 (List.mem_of_getElem? (i := 37) rfl)) rfl
theorem wm_4_38 : (Jvm.Cond.code ({ cls := "jdk/internal/util/ArraysSupport", name := "newLength", desc := "(III)I" } : Jvm.MethodName) prog_30_method_27_code (4 : Nat) (Option.some Jvm.ClassFile.FieldType.int)) ∈ wAll := wAll_in (tb_4 (List.mem_of_getElem? (i := 38) rfl)) rfl
theorem wm_4_39 : (Jvm.Cond.methodLink "jdk/internal/util/ArraysSupport" (194 : Nat) ({ cls := "java/lang/Math", name := "max", desc := "(II)I" } : Jvm.MethodName)) ∈ wAll := wAll_in (tb_4 (List.mem_of_getElem? (i := 39) rfl)) rfl
theorem wm_4_40 : (Jvm.Cond.constant "jdk/internal/util/ArraysSupport" (200 : Nat) (2147483639 : Int32)) ∈ wAll := wAll_in (tb_4 (List.mem_of_getElem? (i := 40) rfl)) rfl
theorem wm_4_41 : (Jvm.Cond.methodLink "jdk/internal/util/ArraysSupport" (201 : Nat) ({ cls := "jdk/internal/util/ArraysSupport", name := "hugeLength", desc := "(II)I" } : Jvm.MethodName)) ∈ wAll := wAll_in (tb_4 (List.mem_of_getElem? (i := 41) rfl)) rfl
theorem wm_4_42 : (Jvm.Cond.static ({ cls := "jdk/internal/util/ArraysSupport", name := "hugeLength", desc := "(II)I" } : Jvm.MethodName)) ∈ wAll := wAll_in (tb_4 (List.mem_of_getElem? (i := 42) rfl)) rfl
theorem wm_4_43 : (Jvm.Cond.code ({ cls := "jdk/internal/util/ArraysSupport", name := "hugeLength", desc := "(II)I" } : Jvm.MethodName) prog_30_method_28_code (3 : Nat) (Option.some Jvm.ClassFile.FieldType.int)) ∈ wAll := wAll_in (tb_4 (List.mem_of_getElem? (i := 43) rfl)) rfl
theorem wm_4_44 : (Jvm.Cond.constant "java/lang/AbstractStringBuilder" (39 : Nat) (2147483647 : Int32)) ∈ wAll := wAll_in (tb_4 (List.mem_of_getElem? (i := 44) rfl)) rfl
theorem wm_4_45 : (Jvm.Cond.methodLink "java/lang/AbstractStringBuilder" (108 : Nat) ({ cls := "java/util/Arrays", name := "copyOf", desc := "([BI)[B" } : Jvm.MethodName)) ∈ wAll := wAll_in (tb_4 (List.mem_of_getElem? (i := 45) rfl)) rfl
theorem wm_4_46 : (Jvm.Cond.static ({ cls := "java/util/Arrays", name := "copyOf", desc := "([BI)[B" } : Jvm.MethodName)) ∈ wAll := wAll_in (tb_4 (List.mem_of_getElem? (i := 46) rfl)) rfl
theorem wm_4_47 : (Jvm.Cond.code ({ cls := "java/util/Arrays", name := "copyOf", desc := "([BI)[B" } : Jvm.MethodName) prog_29_method_121_code (3 : Nat) (Option.some (Jvm.ClassFile.FieldType.array Jvm.ClassFile.FieldType.byte))) ∈ wAll := wAll_in (tb_4 (List.mem_of_getElem? (i := 47) rfl)) rfl
theorem wm_4_48 : (Jvm.Cond.methodLink "java/util/Arrays" (310 : Nat) ({ cls := "[B", name := "clone", desc := "()Ljava/lang/Object;" } : Jvm.MethodName)) ∈ wAll := wAll_in (tb_4 (List.mem_of_getElem? (i := 48) rfl)) rfl
theorem wm_4_49 : (Jvm.Cond.sameMethod "[B" "java/lang/Object" "clone" "()Ljava/lang/Object;") ∈ wAll := wAll_in (tb_4 (List.mem_of_getElem? (i := 49) rfl)) rfl
theorem wn_4_50 : (Jvm.Cond.native ({ cls := "java/lang/Object", name := "clone", desc := "()Ljava/lang/Object;" } : Jvm.MethodName)) ∈ wNest := wNest_in (tb_4 (List.mem_of_getElem? (i := 50) rfl)) rfl
theorem wm_4_51 : (Jvm.Cond.instanceMethod ({ cls := "java/lang/Object", name := "clone", desc := "()Ljava/lang/Object;" } : Jvm.MethodName)) ∈ wAll := wAll_in (tb_4 (List.mem_of_getElem? (i := 51) rfl)) rfl
theorem wm_4_52 : (Jvm.Cond.selects "[B" ({ cls := "[B", name := "clone", desc := "()Ljava/lang/Object;" } : Jvm.MethodName) ({ cls := "java/lang/Object", name := "clone", desc := "()Ljava/lang/Object;" } : Jvm.MethodName)) ∈ wAll := wAll_in (tb_4 (List.mem_of_getElem? (i := 52) rfl)) rfl
theorem wn_4_53 : (Jvm.Cond.castable "[B" "java/lang/Cloneable") ∈ wNest := wNest_in (tb_4 (List.mem_of_getElem? (i := 53) rfl)) rfl
theorem wm_4_54 : (Jvm.Cond.classLink "java/util/Arrays" (311 : Nat) "[B") ∈ wAll := wAll_in (tb_4 (List.mem_of_getElem? (i := 54) rfl)) rfl
theorem wm_4_55 : (Jvm.Cond.methodLink "java/util/Arrays" (304 : Nat) ({ cls := "java/lang/Math", name := "min", desc := "(II)I" } : Jvm.MethodName)) ∈ wAll := wAll_in (tb_4 (List.mem_of_getElem? (i := 55) rfl)) rfl
theorem wm_4_56 : (Jvm.Cond.methodLink "java/util/Arrays" (150 : Nat) ({ cls := "java/lang/System", name := "arraycopy", desc := "(Ljava/lang/Object;ILjava/lang/Object;II)V" } : Jvm.MethodName)) ∈ wAll := wAll_in (tb_4 (List.mem_of_getElem? (i := 56) rfl)) rfl
theorem wm_4_57 : (Jvm.Cond.static ({ cls := "java/lang/System", name := "arraycopy", desc := "(Ljava/lang/Object;ILjava/lang/Object;II)V" } : Jvm.MethodName)) ∈ wAll := wAll_in (tb_4 (List.mem_of_getElem? (i := 57) rfl)) rfl
theorem wn_4_58 : (Jvm.Cond.native ({ cls := "java/lang/System", name := "arraycopy", desc := "(Ljava/lang/Object;ILjava/lang/Object;II)V" } : Jvm.MethodName)) ∈ wNest := wNest_in (tb_4 (List.mem_of_getElem? (i := 58) rfl)) rfl
theorem wm_4_59 : (Jvm.Cond.methodLink "java/lang/AbstractStringBuilder" (83 : Nat) ({ cls := "java/lang/AbstractStringBuilder", name := "isLatin1", desc := "()Z" } : Jvm.MethodName)) ∈ wAll := wAll_in (tb_4 (List.mem_of_getElem? (i := 59) rfl)) rfl
theorem wm_4_60 : (Jvm.Cond.instanceMethod ({ cls := "java/lang/AbstractStringBuilder", name := "isLatin1", desc := "()Z" } : Jvm.MethodName)) ∈ wAll := wAll_in (tb_4 (List.mem_of_getElem? (i := 60) rfl)) rfl
theorem wm_4_61 : (Jvm.Cond.sameMethod "java/lang/AbstractStringBuilder" "java/lang/AbstractStringBuilder" "isLatin1" "()Z") ∈ wAll := wAll_in (tb_4 (List.mem_of_getElem? (i := 61) rfl)) rfl
theorem wm_4_62 : (Jvm.Cond.selects "java/lang/StringBuilder" ({ cls := "java/lang/AbstractStringBuilder", name := "isLatin1", desc := "()Z" } : Jvm.MethodName) ({ cls := "java/lang/AbstractStringBuilder", name := "isLatin1", desc := "()Z" } : Jvm.MethodName)) ∈ wAll := wAll_in (tb_4 (List.mem_of_getElem? (i := 62) rfl)) rfl
theorem wm_4_63 : (Jvm.Cond.code ({ cls := "java/lang/AbstractStringBuilder", name := "isLatin1", desc := "()Z" } : Jvm.MethodName) prog_13_method_68_code (1 : Nat) (Option.some Jvm.ClassFile.FieldType.boolean)) ∈ wAll := wAll_in (tb_4 (List.mem_of_getElem? (i := 63) rfl)) rfl
theorem wm_4_64 : (Jvm.Cond.methodLink "java/lang/AbstractStringBuilder" (191 : Nat) ({ cls := "java/lang/StringLatin1", name := "canEncode", desc := "(C)Z" } : Jvm.MethodName)) ∈ wAll := wAll_in (tb_4 (List.mem_of_getElem? (i := 64) rfl)) rfl
theorem wm_4_65 : (Jvm.Cond.static ({ cls := "java/lang/StringLatin1", name := "canEncode", desc := "(C)Z" } : Jvm.MethodName)) ∈ wAll := wAll_in (tb_4 (List.mem_of_getElem? (i := 65) rfl)) rfl
theorem wm_4_66 : (Jvm.Cond.code ({ cls := "java/lang/StringLatin1", name := "canEncode", desc := "(C)Z" } : Jvm.MethodName) prog_25_method_3_code (1 : Nat) (Option.some Jvm.ClassFile.FieldType.boolean)) ∈ wAll := wAll_in (tb_4 (List.mem_of_getElem? (i := 66) rfl)) rfl
theorem wm_4_67 : (Jvm.Cond.methodLink "java/lang/AbstractStringBuilder" (195 : Nat) ({ cls := "java/lang/AbstractStringBuilder", name := "inflate", desc := "()V" } : Jvm.MethodName)) ∈ wAll := wAll_in (tb_4 (List.mem_of_getElem? (i := 67) rfl)) rfl
theorem wn_4_68 : (Jvm.Cond.privateMethod ({ cls := "java/lang/AbstractStringBuilder", name := "inflate", desc := "()V" } : Jvm.MethodName)) ∈ wNest := wNest_in (tb_4 (List.mem_of_getElem? (i := 68) rfl)) rfl
theorem wm_4_69 : (Jvm.Cond.instanceMethod ({ cls := "java/lang/AbstractStringBuilder", name := "inflate", desc := "()V" } : Jvm.MethodName)) ∈ wAll := wAll_in (tb_4 (List.mem_of_getElem? (i := 69) rfl)) rfl
theorem wm_4_70 : (Jvm.Cond.code ({ cls := "java/lang/AbstractStringBuilder", name := "inflate", desc := "()V" } : Jvm.MethodName) prog_13_method_11_code (2 : Nat) (Option.none : Option Jvm.ClassFile.FieldType)) ∈ wAll := wAll_in (tb_4 (List.mem_of_getElem? (i := 70) rfl)) rfl
theorem wm_4_71 : (Jvm.Cond.methodLink "java/lang/AbstractStringBuilder" (125 : Nat) ({ cls := "java/lang/StringLatin1", name := "inflate", desc := "([BI[BII)V" } : Jvm.MethodName)) ∈ wAll := wAll_in (tb_4 (List.mem_of_getElem? (i := 71) rfl)) rfl
theorem wm_4_72 : (Jvm.Cond.static ({ cls := "java/lang/StringLatin1", name := "inflate", desc := "([BI[BII)V" } : Jvm.MethodName)) ∈ wAll := wAll_in (tb_4 (List.mem_of_getElem? (i := 72) rfl)) rfl
theorem wm_4_73 : (Jvm.Cond.code ({ cls := "java/lang/StringLatin1", name := "inflate", desc := "([BI[BII)V" } : Jvm.MethodName) prog_25_method_50_code (5 : Nat) (Option.none : Option Jvm.ClassFile.FieldType)) ∈ wAll := wAll_in (tb_4 (List.mem_of_getElem? (i := 73) rfl)) rfl
theorem wm_4_74 : (Jvm.Cond.methodLink "java/lang/StringLatin1" (240 : Nat) ({ cls := "java/lang/StringUTF16", name := "inflate", desc := "([BI[BII)V" } : Jvm.MethodName)) ∈ wAll := wAll_in (tb_4 (List.mem_of_getElem? (i := 74) rfl)) rfl
theorem wm_4_75 : (Jvm.Cond.static ({ cls := "java/lang/StringUTF16", name := "inflate", desc := "([BI[BII)V" } : Jvm.MethodName)) ∈ wAll := wAll_in (tb_4 (List.mem_of_getElem? (i := 75) rfl)) rfl
theorem wm_4_76 : (Jvm.Cond.code ({ cls := "java/lang/StringUTF16", name := "inflate", desc := "([BI[BII)V" } : Jvm.MethodName) prog_26_method_86_code (6 : Nat) (Option.none : Option Jvm.ClassFile.FieldType)) ∈ wAll := wAll_in (tb_4 (List.mem_of_getElem? (i := 76) rfl)) rfl
theorem wm_4_77 : (Jvm.Cond.methodLink "java/lang/StringUTF16" (173 : Nat) ({ cls := "java/lang/StringUTF16", name := "checkBoundsOffCount", desc := "(II[B)V" } : Jvm.MethodName)) ∈ wAll := wAll_in (tb_4 (List.mem_of_getElem? (i := 77) rfl)) rfl
theorem wm_4_78 : (Jvm.Cond.static ({ cls := "java/lang/StringUTF16", name := "checkBoundsOffCount", desc := "(II[B)V" } : Jvm.MethodName)) ∈ wAll := wAll_in (tb_4 (List.mem_of_getElem? (i := 78) rfl)) rfl
theorem wm_4_79 : (Jvm.Cond.code ({ cls := "java/lang/StringUTF16", name := "checkBoundsOffCount", desc := "(II[B)V" } : Jvm.MethodName) prog_26_method_94_code (3 : Nat) (Option.none : Option Jvm.ClassFile.FieldType)) ∈ wAll := wAll_in (tb_4 (List.mem_of_getElem? (i := 79) rfl)) rfl
theorem wm_4_80 : (Jvm.Cond.methodLink "java/lang/StringUTF16" (48 : Nat) ({ cls := "java/lang/StringUTF16", name := "length", desc := "([B)I" } : Jvm.MethodName)) ∈ wAll := wAll_in (tb_4 (List.mem_of_getElem? (i := 80) rfl)) rfl
theorem wm_4_81 : (Jvm.Cond.static ({ cls := "java/lang/StringUTF16", name := "length", desc := "([B)I" } : Jvm.MethodName)) ∈ wAll := wAll_in (tb_4 (List.mem_of_getElem? (i := 81) rfl)) rfl
theorem wm_4_82 : (Jvm.Cond.code ({ cls := "java/lang/StringUTF16", name := "length", desc := "([B)I" } : Jvm.MethodName) prog_26_method_6_code (1 : Nat) (Option.some Jvm.ClassFile.FieldType.int)) ∈ wAll := wAll_in (tb_4 (List.mem_of_getElem? (i := 82) rfl)) rfl
theorem wm_4_83 : (Jvm.Cond.methodLink "java/lang/StringUTF16" (419 : Nat) ({ cls := "java/lang/String", name := "checkBoundsOffCount", desc := "(III)I" } : Jvm.MethodName)) ∈ wAll := wAll_in (tb_4 (List.mem_of_getElem? (i := 83) rfl)) rfl
theorem wm_4_84 : (Jvm.Cond.static ({ cls := "java/lang/String", name := "checkBoundsOffCount", desc := "(III)I" } : Jvm.MethodName)) ∈ wAll := wAll_in (tb_4 (List.mem_of_getElem? (i := 84) rfl)) rfl
theorem wm_4_85 : (Jvm.Cond.code ({ cls := "java/lang/String", name := "checkBoundsOffCount", desc := "(III)I" } : Jvm.MethodName) prog_23_method_157_code (3 : Nat) (Option.some Jvm.ClassFile.FieldType.int)) ∈ wAll := wAll_in (tb_4 (List.mem_of_getElem? (i := 85) rfl)) rfl
theorem wm_4_86 : (Jvm.Cond.fieldLink "java/lang/String" (1053 : Nat) "jdk/internal/util/Preconditions" "SIOOBE_FORMATTER" "Ljava/util/function/BiFunction;") ∈ wAll := wAll_in (tb_4 (List.mem_of_getElem? (i := 86) rfl)) rfl
theorem wt_4_87 : (Jvm.Cond.laysStatic "jdk/internal/util/Preconditions" "SIOOBE_FORMATTER" "Ljava/util/function/BiFunction;") ∈ lw_tbl := tb_4 (List.mem_of_getElem? (i := 87) rfl)
theorem wm_4_88 : (Jvm.Cond.methodLink "java/lang/String" (1065 : Nat) ({ cls := "jdk/internal/util/Preconditions", name := "checkFromIndexSize", desc := "(IIILjava/util/function/BiFunction;)I" } : Jvm.MethodName)) ∈ wAll := wAll_in (tb_4 (List.mem_of_getElem? (i := 88) rfl)) rfl
theorem wm_4_89 : (Jvm.Cond.static ({ cls := "jdk/internal/util/Preconditions", name := "checkFromIndexSize", desc := "(IIILjava/util/function/BiFunction;)I" } : Jvm.MethodName)) ∈ wAll := wAll_in (tb_4 (List.mem_of_getElem? (i := 89) rfl)) rfl
theorem wm_4_90 : (Jvm.Cond.code ({ cls := "jdk/internal/util/Preconditions", name := "checkFromIndexSize", desc := "(IIILjava/util/function/BiFunction;)I" } : Jvm.MethodName) prog_31_method_13_code (4 : Nat) (Option.some Jvm.ClassFile.FieldType.int)) ∈ wAll := wAll_in (tb_4 (List.mem_of_getElem? (i := 90) rfl)) rfl
theorem wm_4_91 : (Jvm.Cond.methodLink "java/lang/StringUTF16" (111 : Nat) ({ cls := "java/lang/StringUTF16", name := "putChar", desc := "([BII)V" } : Jvm.MethodName)) ∈ wAll := wAll_in (tb_4 (List.mem_of_getElem? (i := 91) rfl)) rfl
theorem wm_4_92 : (Jvm.Cond.static ({ cls := "java/lang/StringUTF16", name := "putChar", desc := "([BII)V" } : Jvm.MethodName)) ∈ wAll := wAll_in (tb_4 (List.mem_of_getElem? (i := 92) rfl)) rfl
theorem wm_4_93 : (Jvm.Cond.code ({ cls := "java/lang/StringUTF16", name := "putChar", desc := "([BII)V" } : Jvm.MethodName) prog_26_method_4_code (3 : Nat) (Option.none : Option Jvm.ClassFile.FieldType)) ∈ wAll := wAll_in (tb_4 (List.mem_of_getElem? (i := 93) rfl)) rfl
theorem wm_4_94 : (Jvm.Cond.fieldLink "java/lang/StringUTF16" (44 : Nat) "java/lang/StringUTF16" "$assertionsDisabled" "Z") ∈ wAll := wAll_in (tb_4 (List.mem_of_getElem? (i := 94) rfl)) rfl
theorem wt_4_95 : (Jvm.Cond.laysStatic "java/lang/StringUTF16" "$assertionsDisabled" "Z") ∈ lw_tbl := tb_4 (List.mem_of_getElem? (i := 95) rfl)
theorem wm_4_96 : (Jvm.Cond.fieldLink "java/lang/StringUTF16" (59 : Nat) "java/lang/StringUTF16" "HI_BYTE_SHIFT" "I") ∈ wAll := wAll_in (tb_4 (List.mem_of_getElem? (i := 96) rfl)) rfl
theorem wt_4_97 : (Jvm.Cond.laysStatic "java/lang/StringUTF16" "HI_BYTE_SHIFT" "I") ∈ lw_tbl := tb_4 (List.mem_of_getElem? (i := 97) rfl)
theorem wm_4_98 : (Jvm.Cond.fieldLink "java/lang/StringUTF16" (63 : Nat) "java/lang/StringUTF16" "LO_BYTE_SHIFT" "I") ∈ wAll := wAll_in (tb_4 (List.mem_of_getElem? (i := 98) rfl)) rfl
theorem wt_4_99 : (Jvm.Cond.laysStatic "java/lang/StringUTF16" "LO_BYTE_SHIFT" "I") ∈ lw_tbl := tb_4 (List.mem_of_getElem? (i := 99) rfl)
theorem wm_4_100 : (Jvm.Cond.methodLink "java/lang/AbstractStringBuilder" (197 : Nat) ({ cls := "java/lang/StringUTF16", name := "putCharSB", desc := "([BII)V" } : Jvm.MethodName)) ∈ wAll := wAll_in (tb_4 (List.mem_of_getElem? (i := 100) rfl)) rfl
theorem wm_4_101 : (Jvm.Cond.static ({ cls := "java/lang/StringUTF16", name := "putCharSB", desc := "([BII)V" } : Jvm.MethodName)) ∈ wAll := wAll_in (tb_4 (List.mem_of_getElem? (i := 101) rfl)) rfl
theorem wm_4_102 : (Jvm.Cond.code ({ cls := "java/lang/StringUTF16", name := "putCharSB", desc := "([BII)V" } : Jvm.MethodName) prog_26_method_71_code (3 : Nat) (Option.none : Option Jvm.ClassFile.FieldType)) ∈ wAll := wAll_in (tb_4 (List.mem_of_getElem? (i := 102) rfl)) rfl
theorem wm_4_103 : (Jvm.Cond.methodLink "java/lang/StringUTF16" (67 : Nat) ({ cls := "java/lang/StringUTF16", name := "checkIndex", desc := "(I[B)V" } : Jvm.MethodName)) ∈ wAll := wAll_in (tb_4 (List.mem_of_getElem? (i := 103) rfl)) rfl
theorem wm_4_104 : (Jvm.Cond.static ({ cls := "java/lang/StringUTF16", name := "checkIndex", desc := "(I[B)V" } : Jvm.MethodName)) ∈ wAll := wAll_in (tb_4 (List.mem_of_getElem? (i := 104) rfl)) rfl
theorem wm_4_105 : (Jvm.Cond.code ({ cls := "java/lang/StringUTF16", name := "checkIndex", desc := "(I[B)V" } : Jvm.MethodName) prog_26_method_91_code (2 : Nat) (Option.none : Option Jvm.ClassFile.FieldType)) ∈ wAll := wAll_in (tb_4 (List.mem_of_getElem? (i := 105) rfl)) rfl
theorem wm_4_106 : (Jvm.Cond.methodLink "java/lang/StringUTF16" (414 : Nat) ({ cls := "java/lang/String", name := "checkIndex", desc := "(II)V" } : Jvm.MethodName)) ∈ wAll := wAll_in (tb_4 (List.mem_of_getElem? (i := 106) rfl)) rfl
theorem wm_4_107 : (Jvm.Cond.static ({ cls := "java/lang/String", name := "checkIndex", desc := "(II)V" } : Jvm.MethodName)) ∈ wAll := wAll_in (tb_4 (List.mem_of_getElem? (i := 107) rfl)) rfl
theorem wm_4_108 : (Jvm.Cond.code ({ cls := "java/lang/String", name := "checkIndex", desc := "(II)V" } : Jvm.MethodName) prog_23_method_155_code (2 : Nat) (Option.none : Option Jvm.ClassFile.FieldType)) ∈ wAll := wAll_in (tb_4 (List.mem_of_getElem? (i := 108) rfl)) rfl
theorem wm_4_109 : (Jvm.Cond.methodLink "java/lang/String" (1059 : Nat) ({ cls := "jdk/internal/util/Preconditions", name := "checkIndex", desc := "(IILjava/util/function/BiFunction;)I" } : Jvm.MethodName)) ∈ wAll := wAll_in (tb_4 (List.mem_of_getElem? (i := 109) rfl)) rfl
theorem wm_4_110 : (Jvm.Cond.static ({ cls := "jdk/internal/util/Preconditions", name := "checkIndex", desc := "(IILjava/util/function/BiFunction;)I" } : Jvm.MethodName)) ∈ wAll := wAll_in (tb_4 (List.mem_of_getElem? (i := 110) rfl)) rfl
theorem wm_4_111 : (Jvm.Cond.code ({ cls := "jdk/internal/util/Preconditions", name := "checkIndex", desc := "(IILjava/util/function/BiFunction;)I" } : Jvm.MethodName) prog_31_method_11_code (3 : Nat) (Option.some Jvm.ClassFile.FieldType.int)) ∈ wAll := wAll_in (tb_4 (List.mem_of_getElem? (i := 111) rfl)) rfl
theorem wm_4_112 : (Jvm.Cond.methodLink "Gridmender" (178 : Nat) ({ cls := "java/lang/StringBuilder", name := "append", desc := "(I)Ljava/lang/StringBuilder;" } : Jvm.MethodName)) ∈ wAll := wAll_in (tb_4 (List.mem_of_getElem? (i := 112) rfl)) rfl
theorem wm_4_113 : (Jvm.Cond.instanceMethod ({ cls := "java/lang/StringBuilder", name := "append", desc := "(I)Ljava/lang/StringBuilder;" } : Jvm.MethodName)) ∈ wAll := wAll_in (tb_4 (List.mem_of_getElem? (i := 113) rfl)) rfl
theorem wm_4_114 : (Jvm.Cond.selects "java/lang/StringBuilder" ({ cls := "java/lang/StringBuilder", name := "append", desc := "(I)Ljava/lang/StringBuilder;" } : Jvm.MethodName) ({ cls := "java/lang/StringBuilder", name := "append", desc := "(I)Ljava/lang/StringBuilder;" } : Jvm.MethodName)) ∈ wAll := wAll_in (tb_4 (List.mem_of_getElem? (i := 114) rfl)) rfl
theorem wm_4_115 : (Jvm.Cond.code ({ cls := "java/lang/StringBuilder", name := "append", desc := "(I)Ljava/lang/StringBuilder;" } : Jvm.MethodName) prog_24_method_15_code (2 : Nat) (Option.some (Jvm.ClassFile.FieldType.object "java/lang/StringBuilder"))) ∈ wAll := wAll_in (tb_4 (List.mem_of_getElem? (i := 115) rfl)) rfl
theorem wm_4_116 : (Jvm.Cond.methodLink "java/lang/StringBuilder" (53 : Nat) ({ cls := "java/lang/AbstractStringBuilder", name := "append", desc := "(I)Ljava/lang/AbstractStringBuilder;" } : Jvm.MethodName)) ∈ wAll := wAll_in (tb_4 (List.mem_of_getElem? (i := 116) rfl)) rfl
theorem wm_4_117 : (Jvm.Cond.instanceMethod ({ cls := "java/lang/AbstractStringBuilder", name := "append", desc := "(I)Ljava/lang/AbstractStringBuilder;" } : Jvm.MethodName)) ∈ wAll := wAll_in (tb_4 (List.mem_of_getElem? (i := 117) rfl)) rfl
theorem wm_4_118 : (Jvm.Cond.code ({ cls := "java/lang/AbstractStringBuilder", name := "append", desc := "(I)Ljava/lang/AbstractStringBuilder;" } : Jvm.MethodName) prog_13_method_32_code (4 : Nat) (Option.some (Jvm.ClassFile.FieldType.object "java/lang/AbstractStringBuilder"))) ∈ wAll := wAll_in (tb_4 (List.mem_of_getElem? (i := 118) rfl)) rfl
theorem wm_4_119 : (Jvm.Cond.methodLink "java/lang/AbstractStringBuilder" (245 : Nat) ({ cls := "java/lang/Integer", name := "stringSize", desc := "(I)I" } : Jvm.MethodName)) ∈ wAll := wAll_in (tb_4 (List.mem_of_getElem? (i := 119) rfl)) rfl
theorem wm_4_120 : (Jvm.Cond.static ({ cls := "java/lang/Integer", name := "stringSize", desc := "(I)I" } : Jvm.MethodName)) ∈ wAll := wAll_in (tb_4 (List.mem_of_getElem? (i := 120) rfl)) rfl
theorem wm_4_121 : (Jvm.Cond.code ({ cls := "java/lang/Integer", name := "stringSize", desc := "(I)I" } : Jvm.MethodName) prog_19_method_13_code (4 : Nat) (Option.some Jvm.ClassFile.FieldType.int)) ∈ wAll := wAll_in (tb_4 (List.mem_of_getElem? (i := 121) rfl)) rfl
theorem wm_4_122 : (Jvm.Cond.methodLink "java/lang/AbstractStringBuilder" (248 : Nat) ({ cls := "java/lang/Integer", name := "getChars", desc := "(II[B)I" } : Jvm.MethodName)) ∈ wAll := wAll_in (tb_4 (List.mem_of_getElem? (i := 122) rfl)) rfl
theorem wm_4_123 : (Jvm.Cond.static ({ cls := "java/lang/Integer", name := "getChars", desc := "(II[B)I" } : Jvm.MethodName)) ∈ wAll := wAll_in (tb_4 (List.mem_of_getElem? (i := 123) rfl)) rfl
theorem wm_4_124 : (Jvm.Cond.code ({ cls := "java/lang/Integer", name := "getChars", desc := "(II[B)I" } : Jvm.MethodName) prog_19_method_12_code (7 : Nat) (Option.some Jvm.ClassFile.FieldType.int)) ∈ wAll := wAll_in (tb_4 (List.mem_of_getElem? (i := 124) rfl)) rfl
theorem wm_4_125 : (Jvm.Cond.fieldLink "java/lang/Integer" (83 : Nat) "java/lang/Integer" "DigitOnes" "[B") ∈ wAll := wAll_in (tb_4 (List.mem_of_getElem? (i := 125) rfl)) rfl
theorem wt_4_126 : (Jvm.Cond.laysStatic "java/lang/Integer" "DigitOnes" "[B") ∈ lw_tbl := tb_4 (List.mem_of_getElem? (i := 126) rfl)
theorem wm_4_127 : (Jvm.Cond.fieldLink "java/lang/Integer" (87 : Nat) "java/lang/Integer" "DigitTens" "[B") ∈ wAll := wAll_in (tb_4 (List.mem_of_getElem? (i := 127) rfl)) rfl
theorem wt_4_128 : (Jvm.Cond.laysStatic "java/lang/Integer" "DigitTens" "[B") ∈ lw_tbl := tb_4 (List.mem_of_getElem? (i := 128) rfl)
theorem wm_4_129 : (Jvm.Cond.methodLink "java/lang/AbstractStringBuilder" (251 : Nat) ({ cls := "java/lang/StringUTF16", name := "getChars", desc := "(III[B)I" } : Jvm.MethodName)) ∈ wAll := wAll_in (tb_4 (List.mem_of_getElem? (i := 129) rfl)) rfl
theorem wm_4_130 : (Jvm.Cond.static ({ cls := "java/lang/StringUTF16", name := "getChars", desc := "(III[B)I" } : Jvm.MethodName)) ∈ wAll := wAll_in (tb_4 (List.mem_of_getElem? (i := 130) rfl)) rfl
theorem wm_4_131 : (Jvm.Cond.code ({ cls := "java/lang/StringUTF16", name := "getChars", desc := "(III[B)I" } : Jvm.MethodName) prog_26_method_77_code (5 : Nat) (Option.some Jvm.ClassFile.FieldType.int)) ∈ wAll := wAll_in (tb_4 (List.mem_of_getElem? (i := 131) rfl)) rfl
theorem wm_4_132 : (Jvm.Cond.methodLink "java/lang/StringUTF16" (96 : Nat) ({ cls := "java/lang/StringUTF16", name := "checkBoundsBeginEnd", desc := "(II[B)V" } : Jvm.MethodName)) ∈ wAll := wAll_in (tb_4 (List.mem_of_getElem? (i := 132) rfl)) rfl
theorem wm_4_133 : (Jvm.Cond.static ({ cls := "java/lang/StringUTF16", name := "checkBoundsBeginEnd", desc := "(II[B)V" } : Jvm.MethodName)) ∈ wAll := wAll_in (tb_4 (List.mem_of_getElem? (i := 133) rfl)) rfl
theorem wm_4_134 : (Jvm.Cond.code ({ cls := "java/lang/StringUTF16", name := "checkBoundsBeginEnd", desc := "(II[B)V" } : Jvm.MethodName) prog_26_method_93_code (3 : Nat) (Option.none : Option Jvm.ClassFile.FieldType)) ∈ wAll := wAll_in (tb_4 (List.mem_of_getElem? (i := 134) rfl)) rfl
theorem wm_4_135 : (Jvm.Cond.methodLink "java/lang/StringUTF16" (241 : Nat) ({ cls := "java/lang/String", name := "checkBoundsBeginEnd", desc := "(III)V" } : Jvm.MethodName)) ∈ wAll := wAll_in (tb_4 (List.mem_of_getElem? (i := 135) rfl)) rfl
theorem wm_4_136 : (Jvm.Cond.static ({ cls := "java/lang/String", name := "checkBoundsBeginEnd", desc := "(III)V" } : Jvm.MethodName)) ∈ wAll := wAll_in (tb_4 (List.mem_of_getElem? (i := 136) rfl)) rfl
theorem wm_4_137 : (Jvm.Cond.code ({ cls := "java/lang/String", name := "checkBoundsBeginEnd", desc := "(III)V" } : Jvm.MethodName) prog_23_method_158_code (3 : Nat) (Option.none : Option Jvm.ClassFile.FieldType)) ∈ wAll := wAll_in (tb_4 (List.mem_of_getElem? (i := 137) rfl)) rfl
theorem wm_4_138 : (Jvm.Cond.methodLink "java/lang/String" (1062 : Nat) ({ cls := "jdk/internal/util/Preconditions", name := "checkFromToIndex", desc := "(IIILjava/util/function/BiFunction;)I" } : Jvm.MethodName)) ∈ wAll := wAll_in (tb_4 (List.mem_of_getElem? (i := 138) rfl)) rfl
theorem wm_4_139 : (Jvm.Cond.static ({ cls := "jdk/internal/util/Preconditions", name := "checkFromToIndex", desc := "(IIILjava/util/function/BiFunction;)I" } : Jvm.MethodName)) ∈ wAll := wAll_in (tb_4 (List.mem_of_getElem? (i := 139) rfl)) rfl
theorem wm_4_140 : (Jvm.Cond.code ({ cls := "jdk/internal/util/Preconditions", name := "checkFromToIndex", desc := "(IIILjava/util/function/BiFunction;)I" } : Jvm.MethodName) prog_31_method_12_code (4 : Nat) (Option.some Jvm.ClassFile.FieldType.int)) ∈ wAll := wAll_in (tb_4 (List.mem_of_getElem? (i := 140) rfl)) rfl
theorem wm_4_141 : (Jvm.Cond.methodLink "java/lang/StringUTF16" (393 : Nat) ({ cls := "java/lang/StringUTF16", name := "getChars", desc := "(II[B)I" } : Jvm.MethodName)) ∈ wAll := wAll_in (tb_4 (List.mem_of_getElem? (i := 141) rfl)) rfl
theorem wm_4_142 : (Jvm.Cond.static ({ cls := "java/lang/StringUTF16", name := "getChars", desc := "(II[B)I" } : Jvm.MethodName)) ∈ wAll := wAll_in (tb_4 (List.mem_of_getElem? (i := 142) rfl)) rfl
theorem wm_4_143 : (Jvm.Cond.code ({ cls := "java/lang/StringUTF16", name := "getChars", desc := "(II[B)I" } : Jvm.MethodName) prog_26_method_89_code (7 : Nat) (Option.some Jvm.ClassFile.FieldType.int)) ∈ wAll := wAll_in (tb_4 (List.mem_of_getElem? (i := 143) rfl)) rfl
theorem wm_4_144 : (Jvm.Cond.fieldLink "java/lang/StringUTF16" (403 : Nat) "java/lang/Integer" "DigitOnes" "[B") ∈ wAll := wAll_in (tb_4 (List.mem_of_getElem? (i := 144) rfl)) rfl
theorem wm_4_145 : (Jvm.Cond.fieldLink "java/lang/StringUTF16" (407 : Nat) "java/lang/Integer" "DigitTens" "[B") ∈ wAll := wAll_in (tb_4 (List.mem_of_getElem? (i := 145) rfl)) rfl
theorem wm_4_146 : (Jvm.Cond.methodLink "Gridmender" (181 : Nat) ({ cls := "java/lang/StringBuilder", name := "toString", desc := "()Ljava/lang/String;" } : Jvm.MethodName)) ∈ wAll := wAll_in (tb_4 (List.mem_of_getElem? (i := 146) rfl)) rfl
theorem wm_4_147 : (Jvm.Cond.instanceMethod ({ cls := "java/lang/StringBuilder", name := "toString", desc := "()Ljava/lang/String;" } : Jvm.MethodName)) ∈ wAll := wAll_in (tb_4 (List.mem_of_getElem? (i := 147) rfl)) rfl
theorem wm_4_148 : (Jvm.Cond.selects "java/lang/StringBuilder" ({ cls := "java/lang/StringBuilder", name := "toString", desc := "()Ljava/lang/String;" } : Jvm.MethodName) ({ cls := "java/lang/StringBuilder", name := "toString", desc := "()Ljava/lang/String;" } : Jvm.MethodName)) ∈ wAll := wAll_in (tb_4 (List.mem_of_getElem? (i := 148) rfl)) rfl
theorem wm_4_149 : (Jvm.Cond.code ({ cls := "java/lang/StringBuilder", name := "toString", desc := "()Ljava/lang/String;" } : Jvm.MethodName) prog_24_method_42_code (1 : Nat) (Option.some (Jvm.ClassFile.FieldType.object "java/lang/String"))) ∈ wAll := wAll_in (tb_4 (List.mem_of_getElem? (i := 149) rfl)) rfl
theorem wm_4_150 : (Jvm.Cond.classLink "java/lang/StringBuilder" (18 : Nat) "java/lang/String") ∈ wAll := wAll_in (tb_4 (List.mem_of_getElem? (i := 150) rfl)) rfl
theorem wm_4_151 : (Jvm.Cond.instantiable "java/lang/String" (4 : Nat)) ∈ wAll := wAll_in (tb_4 (List.mem_of_getElem? (i := 151) rfl)) rfl
theorem wm_4_152 : (Jvm.Cond.methodLink "java/lang/StringBuilder" (137 : Nat) ({ cls := "java/lang/String", name := "<init>", desc := "(Ljava/lang/StringBuilder;)V" } : Jvm.MethodName)) ∈ wAll := wAll_in (tb_4 (List.mem_of_getElem? (i := 152) rfl)) rfl
theorem wm_4_153 : (Jvm.Cond.instanceMethod ({ cls := "java/lang/String", name := "<init>", desc := "(Ljava/lang/StringBuilder;)V" } : Jvm.MethodName)) ∈ wAll := wAll_in (tb_4 (List.mem_of_getElem? (i := 153) rfl)) rfl
theorem wm_4_154 : (Jvm.Cond.code ({ cls := "java/lang/String", name := "<init>", desc := "(Ljava/lang/StringBuilder;)V" } : Jvm.MethodName) prog_23_method_53_code (2 : Nat) (Option.none : Option Jvm.ClassFile.FieldType)) ∈ wAll := wAll_in (tb_4 (List.mem_of_getElem? (i := 154) rfl)) rfl
theorem wm_4_155 : (Jvm.Cond.methodLink "java/lang/String" (489 : Nat) ({ cls := "java/lang/String", name := "<init>", desc := "(Ljava/lang/AbstractStringBuilder;Ljava/lang/Void;)V" } : Jvm.MethodName)) ∈ wAll := wAll_in (tb_4 (List.mem_of_getElem? (i := 155) rfl)) rfl
theorem wm_4_156 : (Jvm.Cond.instanceMethod ({ cls := "java/lang/String", name := "<init>", desc := "(Ljava/lang/AbstractStringBuilder;Ljava/lang/Void;)V" } : Jvm.MethodName)) ∈ wAll := wAll_in (tb_4 (List.mem_of_getElem? (i := 156) rfl)) rfl
theorem wm_4_157 : (Jvm.Cond.code ({ cls := "java/lang/String", name := "<init>", desc := "(Ljava/lang/AbstractStringBuilder;Ljava/lang/Void;)V" } : Jvm.MethodName) prog_23_method_150_code (5 : Nat) (Option.none : Option Jvm.ClassFile.FieldType)) ∈ wAll := wAll_in (tb_4 (List.mem_of_getElem? (i := 157) rfl)) rfl
theorem wm_4_158 : (Jvm.Cond.methodLink "java/lang/String" (1 : Nat) ({ cls := "java/lang/Object", name := "<init>", desc := "()V" } : Jvm.MethodName)) ∈ wAll := wAll_in (tb_4 (List.mem_of_getElem? (i := 158) rfl)) rfl
theorem wm_4_159 : (Jvm.Cond.methodLink "java/lang/String" (552 : Nat) ({ cls := "java/lang/AbstractStringBuilder", name := "getValue", desc := "()[B" } : Jvm.MethodName)) ∈ wAll := wAll_in (tb_4 (List.mem_of_getElem? (i := 159) rfl)) rfl
theorem wm_4_160 : (Jvm.Cond.instanceMethod ({ cls := "java/lang/AbstractStringBuilder", name := "getValue", desc := "()[B" } : Jvm.MethodName)) ∈ wAll := wAll_in (tb_4 (List.mem_of_getElem? (i := 160) rfl)) rfl
theorem wm_4_161 : (Jvm.Cond.sameMethod "java/lang/AbstractStringBuilder" "java/lang/AbstractStringBuilder" "getValue" "()[B") ∈ wAll := wAll_in (tb_4 (List.mem_of_getElem? (i := 161) rfl)) rfl
theorem wm_4_162 : (Jvm.Cond.selects "java/lang/StringBuilder" ({ cls := "java/lang/AbstractStringBuilder", name := "getValue", desc := "()[B" } : Jvm.MethodName) ({ cls := "java/lang/AbstractStringBuilder", name := "getValue", desc := "()[B" } : Jvm.MethodName)) ∈ wAll := wAll_in (tb_4 (List.mem_of_getElem? (i := 162) rfl)) rfl
theorem wm_4_163 : (Jvm.Cond.code ({ cls := "java/lang/AbstractStringBuilder", name := "getValue", desc := "()[B" } : Jvm.MethodName) prog_13_method_64_code (1 : Nat) (Option.some (Jvm.ClassFile.FieldType.array Jvm.ClassFile.FieldType.byte))) ∈ wAll := wAll_in (tb_4 (List.mem_of_getElem? (i := 163) rfl)) rfl
theorem wm_4_164 : (Jvm.Cond.methodLink "java/lang/String" (549 : Nat) ({ cls := "java/lang/AbstractStringBuilder", name := "length", desc := "()I" } : Jvm.MethodName)) ∈ wAll := wAll_in (tb_4 (List.mem_of_getElem? (i := 164) rfl)) rfl
theorem wm_4_165 : (Jvm.Cond.instanceMethod ({ cls := "java/lang/AbstractStringBuilder", name := "length", desc := "()I" } : Jvm.MethodName)) ∈ wAll := wAll_in (tb_4 (List.mem_of_getElem? (i := 165) rfl)) rfl
theorem wm_4_166 : (Jvm.Cond.sameMethod "java/lang/AbstractStringBuilder" "java/lang/AbstractStringBuilder" "length" "()I") ∈ wAll := wAll_in (tb_4 (List.mem_of_getElem? (i := 166) rfl)) rfl
theorem wm_4_167 : (Jvm.Cond.selects "java/lang/StringBuilder" ({ cls := "java/lang/AbstractStringBuilder", name := "length", desc := "()I" } : Jvm.MethodName) ({ cls := "java/lang/StringBuilder", name := "length", desc := "()I" } : Jvm.MethodName)) ∈ wAll := wAll_in (tb_4 (List.mem_of_getElem? (i := 167) rfl)) rfl
theorem wm_4_168 : (Jvm.Cond.instanceMethod ({ cls := "java/lang/StringBuilder", name := "length", desc := "()I" } : Jvm.MethodName)) ∈ wAll := wAll_in (tb_4 (List.mem_of_getElem? (i := 168) rfl)) rfl
theorem wm_4_169 : (Jvm.Cond.code ({ cls := "java/lang/StringBuilder", name := "length", desc := "()I" } : Jvm.MethodName) prog_24_method_93_code (1 : Nat) (Option.some Jvm.ClassFile.FieldType.int)) ∈ wAll := wAll_in (tb_4 (List.mem_of_getElem? (i := 169) rfl)) rfl
theorem wm_4_170 : (Jvm.Cond.methodLink "java/lang/StringBuilder" (343 : Nat) ({ cls := "java/lang/AbstractStringBuilder", name := "length", desc := "()I" } : Jvm.MethodName)) ∈ wAll := wAll_in (tb_4 (List.mem_of_getElem? (i := 170) rfl)) rfl
theorem wm_4_171 : (Jvm.Cond.code ({ cls := "java/lang/AbstractStringBuilder", name := "length", desc := "()I" } : Jvm.MethodName) prog_13_method_6_code (1 : Nat) (Option.some Jvm.ClassFile.FieldType.int)) ∈ wAll := wAll_in (tb_4 (List.mem_of_getElem? (i := 171) rfl)) rfl
theorem wm_4_172 : (Jvm.Cond.methodLink "java/lang/String" (1047 : Nat) ({ cls := "java/lang/AbstractStringBuilder", name := "isLatin1", desc := "()Z" } : Jvm.MethodName)) ∈ wAll := wAll_in (tb_4 (List.mem_of_getElem? (i := 172) rfl)) rfl
theorem wm_4_173 : (Jvm.Cond.methodLink "java/lang/String" (54 : Nat) ({ cls := "java/util/Arrays", name := "copyOfRange", desc := "([BII)[B" } : Jvm.MethodName)) ∈ wAll := wAll_in (tb_4 (List.mem_of_getElem? (i := 173) rfl)) rfl
theorem wm_4_174 : (Jvm.Cond.static ({ cls := "java/util/Arrays", name := "copyOfRange", desc := "([BII)[B" } : Jvm.MethodName)) ∈ wAll := wAll_in (tb_4 (List.mem_of_getElem? (i := 174) rfl)) rfl
theorem wm_4_175 : (Jvm.Cond.code ({ cls := "java/util/Arrays", name := "copyOfRange", desc := "([BII)[B" } : Jvm.MethodName) prog_29_method_132_code (3 : Nat) (Option.some (Jvm.ClassFile.FieldType.array Jvm.ClassFile.FieldType.byte))) ∈ wAll := wAll_in (tb_4 (List.mem_of_getElem? (i := 175) rfl)) rfl
theorem wm_4_176 : (Jvm.Cond.methodLink "java/util/Arrays" (339 : Nat) ({ cls := "java/util/Arrays", name := "copyOfRangeByte", desc := "([BII)[B" } : Jvm.MethodName)) ∈ wAll := wAll_in (tb_4 (List.mem_of_getElem? (i := 176) rfl)) rfl
theorem wm_4_177 : (Jvm.Cond.static ({ cls := "java/util/Arrays", name := "copyOfRangeByte", desc := "([BII)[B" } : Jvm.MethodName)) ∈ wAll := wAll_in (tb_4 (List.mem_of_getElem? (i := 177) rfl)) rfl
theorem wm_4_178 : (Jvm.Cond.code ({ cls := "java/util/Arrays", name := "copyOfRangeByte", desc := "([BII)[B" } : Jvm.MethodName) prog_29_method_133_code (5 : Nat) (Option.some (Jvm.ClassFile.FieldType.array Jvm.ClassFile.FieldType.byte))) ∈ wAll := wAll_in (tb_4 (List.mem_of_getElem? (i := 178) rfl)) rfl
theorem wm_4_179 : (Jvm.Cond.methodLink "java/util/Arrays" (343 : Nat) ({ cls := "java/util/Arrays", name := "checkLength", desc := "(II)V" } : Jvm.MethodName)) ∈ wAll := wAll_in (tb_4 (List.mem_of_getElem? (i := 179) rfl)) rfl
theorem wm_4_180 : (Jvm.Cond.static ({ cls := "java/util/Arrays", name := "checkLength", desc := "(II)V" } : Jvm.MethodName)) ∈ wAll := wAll_in (tb_4 (List.mem_of_getElem? (i := 180) rfl)) rfl
theorem wm_4_181 : (Jvm.Cond.code ({ cls := "java/util/Arrays", name := "checkLength", desc := "(II)V" } : Jvm.MethodName) prog_29_method_131_code (2 : Nat) (Option.none : Option Jvm.ClassFile.FieldType)) ∈ wAll := wAll_in (tb_4 (List.mem_of_getElem? (i := 181) rfl)) rfl
theorem wm_4_182 : (Jvm.Cond.classLink "java/util/Arrays" (43 : Nat) "java/lang/IllegalArgumentException") ∈ wAll := wAll_in (tb_4 (List.mem_of_getElem? (i := 182) rfl)) rfl
theorem wm_4_183 : (Jvm.Cond.classLink "java/util/Arrays" (45 : Nat) "java/lang/StringBuilder") ∈ wAll := wAll_in (tb_4 (List.mem_of_getElem? (i := 183) rfl)) rfl
theorem wm_4_184 : (Jvm.Cond.methodLink "java/util/Arrays" (47 : Nat) ({ cls := "java/lang/StringBuilder", name := "<init>", desc := "()V" } : Jvm.MethodName)) ∈ wAll := wAll_in (tb_4 (List.mem_of_getElem? (i := 184) rfl)) rfl
theorem wm_4_185 : (Jvm.Cond.methodLink "java/util/Arrays" (54 : Nat) ({ cls := "java/lang/StringBuilder", name := "append", desc := "(I)Ljava/lang/StringBuilder;" } : Jvm.MethodName)) ∈ wAll := wAll_in (tb_4 (List.mem_of_getElem? (i := 185) rfl)) rfl
theorem wt_4_186 : (Jvm.Cond.stringRef "java/util/Arrays" (337 : Nat) " > ") ∈ lw_tbl := tb_4 (List.mem_of_getElem? (i := 186) rfl)
theorem wm_4_187 : (Jvm.Cond.methodLink "java/util/Arrays" (50 : Nat) ({ cls := "java/lang/StringBuilder", name := "append", desc := "(Ljava/lang/String;)Ljava/lang/StringBuilder;" } : Jvm.MethodName)) ∈ wAll := wAll_in (tb_4 (List.mem_of_getElem? (i := 187) rfl)) rfl
theorem wm_4_188 : (Jvm.Cond.instanceMethod ({ cls := "java/lang/StringBuilder", name := "append", desc := "(Ljava/lang/String;)Ljava/lang/StringBuilder;" } : Jvm.MethodName)) ∈ wAll := wAll_in (tb_4 (List.mem_of_getElem? (i := 188) rfl)) rfl
theorem wm_4_189 : (Jvm.Cond.selects "java/lang/StringBuilder" ({ cls := "java/lang/StringBuilder", name := "append", desc := "(Ljava/lang/String;)Ljava/lang/StringBuilder;" } : Jvm.MethodName) ({ cls := "java/lang/StringBuilder", name := "append", desc := "(Ljava/lang/String;)Ljava/lang/StringBuilder;" } : Jvm.MethodName)) ∈ wAll := wAll_in (tb_4 (List.mem_of_getElem? (i := 189) rfl)) rfl
theorem wm_4_190 : (Jvm.Cond.code ({ cls := "java/lang/StringBuilder", name := "append", desc := "(Ljava/lang/String;)Ljava/lang/StringBuilder;" } : Jvm.MethodName) prog_24_method_7_code (2 : Nat) (Option.some (Jvm.ClassFile.FieldType.object "java/lang/StringBuilder"))) ∈ wAll := wAll_in (tb_4 (List.mem_of_getElem? (i := 190) rfl)) rfl
theorem wm_4_191 : (Jvm.Cond.methodLink "java/lang/StringBuilder" (29 : Nat) ({ cls := "java/lang/AbstractStringBuilder", name := "append", desc := "(Ljava/lang/String;)Ljava/lang/AbstractStringBuilder;" } : Jvm.MethodName)) ∈ wAll := wAll_in (tb_4 (List.mem_of_getElem? (i := 191) rfl)) rfl
theorem wm_4_192 : (Jvm.Cond.instanceMethod ({ cls := "java/lang/AbstractStringBuilder", name := "append", desc := "(Ljava/lang/String;)Ljava/lang/AbstractStringBuilder;" } : Jvm.MethodName)) ∈ wAll := wAll_in (tb_4 (List.mem_of_getElem? (i := 192) rfl)) rfl
theorem wm_4_193 : (Jvm.Cond.code ({ cls := "java/lang/AbstractStringBuilder", name := "append", desc := "(Ljava/lang/String;)Ljava/lang/AbstractStringBuilder;" } : Jvm.MethodName) prog_13_method_22_code (3 : Nat) (Option.some (Jvm.ClassFile.FieldType.object "java/lang/AbstractStringBuilder"))) ∈ wAll := wAll_in (tb_4 (List.mem_of_getElem? (i := 193) rfl)) rfl
theorem wm_4_194 : (Jvm.Cond.methodLink "java/lang/AbstractStringBuilder" (204 : Nat) ({ cls := "java/lang/AbstractStringBuilder", name := "appendNull", desc := "()Ljava/lang/AbstractStringBuilder;" } : Jvm.MethodName)) ∈ wAll := wAll_in (tb_4 (List.mem_of_getElem? (i := 194) rfl)) rfl
theorem wn_4_195 : (Jvm.Cond.privateMethod ({ cls := "java/lang/AbstractStringBuilder", name := "appendNull", desc := "()Ljava/lang/AbstractStringBuilder;" } : Jvm.MethodName)) ∈ wNest := wNest_in (tb_4 (List.mem_of_getElem? (i := 195) rfl)) rfl
theorem wm_4_196 : (Jvm.Cond.instanceMethod ({ cls := "java/lang/AbstractStringBuilder", name := "appendNull", desc := "()Ljava/lang/AbstractStringBuilder;" } : Jvm.MethodName)) ∈ wAll := wAll_in (tb_4 (List.mem_of_getElem? (i := 196) rfl)) rfl
theorem wm_4_197 : (Jvm.Cond.code ({ cls := "java/lang/AbstractStringBuilder", name := "appendNull", desc := "()Ljava/lang/AbstractStringBuilder;" } : Jvm.MethodName) prog_13_method_26_code (3 : Nat) (Option.some (Jvm.ClassFile.FieldType.object "java/lang/AbstractStringBuilder"))) ∈ wAll := wAll_in (tb_4 (List.mem_of_getElem? (i := 197) rfl)) rfl
theorem wm_4_198 : (Jvm.Cond.methodLink "java/lang/AbstractStringBuilder" (226 : Nat) ({ cls := "java/lang/StringUTF16", name := "putCharsAt", desc := "([BICCCC)I" } : Jvm.MethodName)) ∈ wAll := wAll_in (tb_4 (List.mem_of_getElem? (i := 198) rfl)) rfl
theorem wm_4_199 : (Jvm.Cond.static ({ cls := "java/lang/StringUTF16", name := "putCharsAt", desc := "([BICCCC)I" } : Jvm.MethodName)) ∈ wAll := wAll_in (tb_4 (List.mem_of_getElem? (i := 199) rfl)) rfl
theorem wm_4_200 : (Jvm.Cond.code ({ cls := "java/lang/StringUTF16", name := "putCharsAt", desc := "([BICCCC)I" } : Jvm.MethodName) prog_26_method_81_code (7 : Nat) (Option.some Jvm.ClassFile.FieldType.int)) ∈ wAll := wAll_in (tb_4 (List.mem_of_getElem? (i := 200) rfl)) rfl
theorem wm_4_201 : (Jvm.Cond.methodLink "java/lang/AbstractStringBuilder" (32 : Nat) ({ cls := "java/lang/String", name := "length", desc := "()I" } : Jvm.MethodName)) ∈ wAll := wAll_in (tb_4 (List.mem_of_getElem? (i := 201) rfl)) rfl
theorem wm_4_202 : (Jvm.Cond.instanceMethod ({ cls := "java/lang/String", name := "length", desc := "()I" } : Jvm.MethodName)) ∈ wAll := wAll_in (tb_4 (List.mem_of_getElem? (i := 202) rfl)) rfl
theorem wm_4_203 : (Jvm.Cond.selects "java/lang/String" ({ cls := "java/lang/String", name := "length", desc := "()I" } : Jvm.MethodName) ({ cls := "java/lang/String", name := "length", desc := "()I" } : Jvm.MethodName)) ∈ wAll := wAll_in (tb_4 (List.mem_of_getElem? (i := 203) rfl)) rfl
theorem wm_4_204 : (Jvm.Cond.code ({ cls := "java/lang/String", name := "length", desc := "()I" } : Jvm.MethodName) prog_23_method_54_code (1 : Nat) (Option.some Jvm.ClassFile.FieldType.int)) ∈ wAll := wAll_in (tb_4 (List.mem_of_getElem? (i := 204) rfl)) rfl
theorem wm_4_205 : (Jvm.Cond.methodLink "java/lang/String" (335 : Nat) ({ cls := "java/lang/String", name := "coder", desc := "()B" } : Jvm.MethodName)) ∈ wAll := wAll_in (tb_4 (List.mem_of_getElem? (i := 205) rfl)) rfl
theorem wm_4_206 : (Jvm.Cond.instanceMethod ({ cls := "java/lang/String", name := "coder", desc := "()B" } : Jvm.MethodName)) ∈ wAll := wAll_in (tb_4 (List.mem_of_getElem? (i := 206) rfl)) rfl
theorem wm_4_207 : (Jvm.Cond.selects "java/lang/String" ({ cls := "java/lang/String", name := "coder", desc := "()B" } : Jvm.MethodName) ({ cls := "java/lang/String", name := "coder", desc := "()B" } : Jvm.MethodName)) ∈ wAll := wAll_in (tb_4 (List.mem_of_getElem? (i := 207) rfl)) rfl
theorem wm_4_208 : (Jvm.Cond.code ({ cls := "java/lang/String", name := "coder", desc := "()B" } : Jvm.MethodName) prog_23_method_152_code (1 : Nat) (Option.some Jvm.ClassFile.FieldType.byte)) ∈ wAll := wAll_in (tb_4 (List.mem_of_getElem? (i := 208) rfl)) rfl
theorem wm_4_209 : (Jvm.Cond.fieldLink "java/lang/String" (38 : Nat) "java/lang/String" "COMPACT_STRINGS" "Z") ∈ wAll := wAll_in (tb_4 (List.mem_of_getElem? (i := 209) rfl)) rfl
theorem wm_4_210 : (Jvm.Cond.methodLink "java/lang/AbstractStringBuilder" (208 : Nat) ({ cls := "java/lang/AbstractStringBuilder", name := "putStringAt", desc := "(ILjava/lang/String;)V" } : Jvm.MethodName)) ∈ wAll := wAll_in (tb_4 (List.mem_of_getElem? (i := 210) rfl)) rfl
theorem wn_4_211 : (Jvm.Cond.privateMethod ({ cls := "java/lang/AbstractStringBuilder", name := "putStringAt", desc := "(ILjava/lang/String;)V" } : Jvm.MethodName)) ∈ wNest := wNest_in (tb_4 (List.mem_of_getElem? (i := 211) rfl)) rfl
theorem wm_4_212 : (Jvm.Cond.instanceMethod ({ cls := "java/lang/AbstractStringBuilder", name := "putStringAt", desc := "(ILjava/lang/String;)V" } : Jvm.MethodName)) ∈ wAll := wAll_in (tb_4 (List.mem_of_getElem? (i := 212) rfl)) rfl
theorem wm_4_213 : (Jvm.Cond.code ({ cls := "java/lang/AbstractStringBuilder", name := "putStringAt", desc := "(ILjava/lang/String;)V" } : Jvm.MethodName) prog_13_method_73_code (3 : Nat) (Option.none : Option Jvm.ClassFile.FieldType)) ∈ wAll := wAll_in (tb_4 (List.mem_of_getElem? (i := 213) rfl)) rfl
theorem wm_4_214 : (Jvm.Cond.methodLink "java/lang/AbstractStringBuilder" (397 : Nat) ({ cls := "java/lang/AbstractStringBuilder", name := "inflateIfNeededFor", desc := "(Ljava/lang/String;)V" } : Jvm.MethodName)) ∈ wAll := wAll_in (tb_4 (List.mem_of_getElem? (i := 214) rfl)) rfl
theorem wn_4_215 : (Jvm.Cond.privateMethod ({ cls := "java/lang/AbstractStringBuilder", name := "inflateIfNeededFor", desc := "(Ljava/lang/String;)V" } : Jvm.MethodName)) ∈ wNest := wNest_in (tb_4 (List.mem_of_getElem? (i := 215) rfl)) rfl
theorem wm_4_216 : (Jvm.Cond.instanceMethod ({ cls := "java/lang/AbstractStringBuilder", name := "inflateIfNeededFor", desc := "(Ljava/lang/String;)V" } : Jvm.MethodName)) ∈ wAll := wAll_in (tb_4 (List.mem_of_getElem? (i := 216) rfl)) rfl
theorem wm_4_217 : (Jvm.Cond.code ({ cls := "java/lang/AbstractStringBuilder", name := "inflateIfNeededFor", desc := "(Ljava/lang/String;)V" } : Jvm.MethodName) prog_13_method_71_code (2 : Nat) (Option.none : Option Jvm.ClassFile.FieldType)) ∈ wAll := wAll_in (tb_4 (List.mem_of_getElem? (i := 217) rfl)) rfl
theorem wm_4_218 : (Jvm.Cond.methodLink "java/lang/AbstractStringBuilder" (40 : Nat) ({ cls := "java/lang/String", name := "coder", desc := "()B" } : Jvm.MethodName)) ∈ wAll := wAll_in (tb_4 (List.mem_of_getElem? (i := 218) rfl)) rfl
theorem wm_4_219 : (Jvm.Cond.methodLink "java/lang/AbstractStringBuilder" (399 : Nat) ({ cls := "java/lang/String", name := "getBytes", desc := "([BIB)V" } : Jvm.MethodName)) ∈ wAll := wAll_in (tb_4 (List.mem_of_getElem? (i := 219) rfl)) rfl
theorem wm_4_220 : (Jvm.Cond.instanceMethod ({ cls := "java/lang/String", name := "getBytes", desc := "([BIB)V" } : Jvm.MethodName)) ∈ wAll := wAll_in (tb_4 (List.mem_of_getElem? (i := 220) rfl)) rfl
theorem wm_4_221 : (Jvm.Cond.selects "java/lang/String" ({ cls := "java/lang/String", name := "getBytes", desc := "([BIB)V" } : Jvm.MethodName) ({ cls := "java/lang/String", name := "getBytes", desc := "([BIB)V" } : Jvm.MethodName)) ∈ wAll := wAll_in (tb_4 (List.mem_of_getElem? (i := 221) rfl)) rfl
theorem wm_4_222 : (Jvm.Cond.code ({ cls := "java/lang/String", name := "getBytes", desc := "([BIB)V" } : Jvm.MethodName) prog_23_method_147_code (4 : Nat) (Option.none : Option Jvm.ClassFile.FieldType)) ∈ wAll := wAll_in (tb_4 (List.mem_of_getElem? (i := 222) rfl)) rfl
theorem wm_4_223 : (Jvm.Cond.methodLink "java/lang/String" (212 : Nat) ({ cls := "java/lang/System", name := "arraycopy", desc := "(Ljava/lang/Object;ILjava/lang/Object;II)V" } : Jvm.MethodName)) ∈ wAll := wAll_in (tb_4 (List.mem_of_getElem? (i := 223) rfl)) rfl
theorem wm_4_224 : (Jvm.Cond.methodLink "java/lang/String" (106 : Nat) ({ cls := "java/lang/StringLatin1", name := "inflate", desc := "([BI[BII)V" } : Jvm.MethodName)) ∈ wAll := wAll_in (tb_4 (List.mem_of_getElem? (i := 224) rfl)) rfl
theorem wm_4_225 : (Jvm.Cond.methodLink "java/util/Arrays" (61 : Nat) ({ cls := "java/lang/StringBuilder", name := "toString", desc := "()Ljava/lang/String;" } : Jvm.MethodName)) ∈ wAll := wAll_in (tb_4 (List.mem_of_getElem? (i := 225) rfl)) rfl
theorem wm_4_226 : (Jvm.Cond.methodLink "java/util/Arrays" (65 : Nat) ({ cls := "java/lang/IllegalArgumentException", name := "<init>", desc := "(Ljava/lang/String;)V" } : Jvm.MethodName)) ∈ wAll := wAll_in (tb_4 (List.mem_of_getElem? (i := 226) rfl)) rfl
theorem wm_4_227 : (Jvm.Cond.methodLink "java/lang/String" (1051 : Nat) ({ cls := "java/lang/StringUTF16", name := "compress", desc := "([BII)[B" } : Jvm.MethodName)) ∈ wAll := wAll_in (tb_4 (List.mem_of_getElem? (i := 227) rfl)) rfl
theorem wm_4_228 : (Jvm.Cond.static ({ cls := "java/lang/StringUTF16", name := "compress", desc := "([BII)[B" } : Jvm.MethodName)) ∈ wAll := wAll_in (tb_4 (List.mem_of_getElem? (i := 228) rfl)) rfl
theorem wm_4_229 : (Jvm.Cond.code ({ cls := "java/lang/StringUTF16", name := "compress", desc := "([BII)[B" } : Jvm.MethodName) prog_26_method_17_code (6 : Nat) (Option.some (Jvm.ClassFile.FieldType.array Jvm.ClassFile.FieldType.byte))) ∈ wAll := wAll_in (tb_4 (List.mem_of_getElem? (i := 229) rfl)) rfl
theorem wm_4_230 : (Jvm.Cond.methodLink "java/lang/StringUTF16" (123 : Nat) ({ cls := "java/lang/StringUTF16", name := "compress", desc := "([BI[BII)I" } : Jvm.MethodName)) ∈ wAll := wAll_in (tb_4 (List.mem_of_getElem? (i := 230) rfl)) rfl
theorem wm_4_231 : (Jvm.Cond.static ({ cls := "java/lang/StringUTF16", name := "compress", desc := "([BI[BII)I" } : Jvm.MethodName)) ∈ wAll := wAll_in (tb_4 (List.mem_of_getElem? (i := 231) rfl)) rfl
theorem wm_4_232 : (Jvm.Cond.code ({ cls := "java/lang/StringUTF16", name := "compress", desc := "([BI[BII)I" } : Jvm.MethodName) prog_26_method_22_code (7 : Nat) (Option.some Jvm.ClassFile.FieldType.int)) ∈ wAll := wAll_in (tb_4 (List.mem_of_getElem? (i := 232) rfl)) rfl
theorem wm_4_233 : (Jvm.Cond.methodLink "java/lang/StringUTF16" (71 : Nat) ({ cls := "java/lang/StringUTF16", name := "getChar", desc := "([BI)C" } : Jvm.MethodName)) ∈ wAll := wAll_in (tb_4 (List.mem_of_getElem? (i := 233) rfl)) rfl
theorem wm_4_234 : (Jvm.Cond.static ({ cls := "java/lang/StringUTF16", name := "getChar", desc := "([BI)C" } : Jvm.MethodName)) ∈ wAll := wAll_in (tb_4 (List.mem_of_getElem? (i := 234) rfl)) rfl
theorem wm_4_235 : (Jvm.Cond.code ({ cls := "java/lang/StringUTF16", name := "getChar", desc := "([BI)C" } : Jvm.MethodName) prog_26_method_5_code (2 : Nat) (Option.some Jvm.ClassFile.FieldType.char)) ∈ wAll := wAll_in (tb_4 (List.mem_of_getElem? (i := 235) rfl)) rfl
theorem wm_4_236 : (Jvm.Cond.methodLink "java/lang/StringUTF16" (126 : Nat) ({ cls := "java/util/Arrays", name := "copyOfRange", desc := "([BII)[B" } : Jvm.MethodName)) ∈ wAll := wAll_in (tb_4 (List.mem_of_getElem? (i := 236) rfl)) rfl
theorem wm_4_237 : (Jvm.Cond.methodLink "java/lang/String" (47 : Nat) ({ cls := "java/lang/StringUTF16", name := "coderFromArrayLen", desc := "([BI)B" } : Jvm.MethodName)) ∈ wAll := wAll_in (tb_4 (List.mem_of_getElem? (i := 237) rfl)) rfl
theorem wm_4_238 : (Jvm.Cond.static ({ cls := "java/lang/StringUTF16", name := "coderFromArrayLen", desc := "([BI)B" } : Jvm.MethodName)) ∈ wAll := wAll_in (tb_4 (List.mem_of_getElem? (i := 238) rfl)) rfl
theorem wm_4_239 : (Jvm.Cond.code ({ cls := "java/lang/StringUTF16", name := "coderFromArrayLen", desc := "([BI)B" } : Jvm.MethodName) prog_26_method_15_code (2 : Nat) (Option.some Jvm.ClassFile.FieldType.byte)) ∈ wAll := wAll_in (tb_4 (List.mem_of_getElem? (i := 239) rfl)) rfl
theorem wm_5_0 : (Jvm.Cond.fieldLink "java/lang/String" (9 : Nat) "java/lang/String" "value" "[B") ∈ wAll := wAll_in (tb_5 (List.mem_of_getElem? (i := 0) rfl)) rfl
theorem wm_5_1 : (Jvm.Cond.fieldLink "java/lang/String" (15 : Nat) "java/lang/String" "coder" "B") ∈ wAll := wAll_in (tb_5 (List.mem_of_getElem? (i := 1) rfl)) rfl
theorem wm_5_10 : (Jvm.Cond.superclass "java/lang/String" "java/lang/Object") ∈ wAll := wAll_in (tb_5 (List.mem_of_getElem? (i := 10) rfl)) rfl
theorem wm_5_11 : (Jvm.Cond.methodLink "GridmenderLaw" (208 : Nat) ({ cls := "GridmenderLaw", name := "isSame", desc := "(LGridmender;IILGridmenderLaw$Out;)I" } : Jvm.MethodName)) ∈ wAll := wAll_in (tb_5 (List.mem_of_getElem? (i := 11) rfl)) rfl
theorem wm_5_12 : (Jvm.Cond.static ({ cls := "GridmenderLaw", name := "isSame", desc := "(LGridmender;IILGridmenderLaw$Out;)I" } : Jvm.MethodName)) ∈ wAll := wAll_in (tb_5 (List.mem_of_getElem? (i := 12) rfl)) rfl
theorem wm_5_13 : (Jvm.Cond.codeWith ({ cls := "GridmenderLaw", name := "isSame", desc := "(LGridmender;IILGridmenderLaw$Out;)I" } : Jvm.MethodName) method_21_code (5 : Nat) (Option.some Jvm.ClassFile.FieldType.int) [((0 : Nat), (18 : Nat), (21 : Nat), (19 : Nat))]) ∈ wAll := wAll_in (tb_5 (List.mem_of_getElem? (i := 13) rfl)) rfl
theorem wm_5_14 : (Jvm.Cond.methodLink "GridmenderLaw" (90 : Nat) ({ cls := "Gridmender", name := "isSame", desc := "(II)Z" } : Jvm.MethodName)) ∈ wAll := wAll_in (tb_5 (List.mem_of_getElem? (i := 14) rfl)) rfl
theorem wm_5_15 : (Jvm.Cond.instanceMethod ({ cls := "Gridmender", name := "isSame", desc := "(II)Z" } : Jvm.MethodName)) ∈ wAll := wAll_in (tb_5 (List.mem_of_getElem? (i := 15) rfl)) rfl
theorem wm_5_16 : (Jvm.Cond.selects "Gridmender" ({ cls := "Gridmender", name := "isSame", desc := "(II)Z" } : Jvm.MethodName) ({ cls := "Gridmender", name := "isSame", desc := "(II)Z" } : Jvm.MethodName)) ∈ wAll := wAll_in (tb_5 (List.mem_of_getElem? (i := 16) rfl)) rfl
theorem wm_5_17 : (Jvm.Cond.code ({ cls := "Gridmender", name := "isSame", desc := "(II)Z" } : Jvm.MethodName) prog_1_method_21_code (5 : Nat) (Option.some Jvm.ClassFile.FieldType.boolean)) ∈ wAll := wAll_in (tb_5 (List.mem_of_getElem? (i := 17) rfl)) rfl
theorem wm_5_18 : (Jvm.Cond.methodLink "GridmenderLaw" (211 : Nat) ({ cls := "GridmenderLaw", name := "determinant", desc := "(LGridmender;IILGridmenderLaw$Out;)I" } : Jvm.MethodName)) ∈ wAll := wAll_in (tb_5 (List.mem_of_getElem? (i := 18) rfl)) rfl
theorem wm_5_19 : (Jvm.Cond.static ({ cls := "GridmenderLaw", name := "determinant", desc := "(LGridmender;IILGridmenderLaw$Out;)I" } : Jvm.MethodName)) ∈ wAll := wAll_in (tb_5 (List.mem_of_getElem? (i := 19) rfl)) rfl
theorem wm_5_20 : (Jvm.Cond.codeWith ({ cls := "GridmenderLaw", name := "determinant", desc := "(LGridmender;IILGridmenderLaw$Out;)I" } : Jvm.MethodName) method_22_code (5 : Nat) (Option.some Jvm.ClassFile.FieldType.int) [((0 : Nat), (11 : Nat), (14 : Nat), (19 : Nat)), ((0 : Nat), (11 : Nat), (18 : Nat), (21 : Nat)), ((0 : Nat), (11 : Nat), (22 : Nat), (97 : Nat))]) ∈ wAll := wAll_in (tb_5 (List.mem_of_getElem? (i := 20) rfl)) rfl
theorem wm_5_21 : (Jvm.Cond.classLink "GridmenderLaw" (97 : Nat) "java/lang/IllegalStateException") ∈ wAll := wAll_in (tb_5 (List.mem_of_getElem? (i := 21) rfl)) rfl
theorem wm_5_22 : (Jvm.Cond.methodLink "GridmenderLaw" (94 : Nat) ({ cls := "Gridmender", name := "determinant", desc := "(II)I" } : Jvm.MethodName)) ∈ wAll := wAll_in (tb_5 (List.mem_of_getElem? (i := 22) rfl)) rfl
theorem wm_5_23 : (Jvm.Cond.instanceMethod ({ cls := "Gridmender", name := "determinant", desc := "(II)I" } : Jvm.MethodName)) ∈ wAll := wAll_in (tb_5 (List.mem_of_getElem? (i := 23) rfl)) rfl
theorem wm_5_24 : (Jvm.Cond.selects "Gridmender" ({ cls := "Gridmender", name := "determinant", desc := "(II)I" } : Jvm.MethodName) ({ cls := "Gridmender", name := "determinant", desc := "(II)I" } : Jvm.MethodName)) ∈ wAll := wAll_in (tb_5 (List.mem_of_getElem? (i := 24) rfl)) rfl
theorem wm_5_25 : (Jvm.Cond.code ({ cls := "Gridmender", name := "determinant", desc := "(II)I" } : Jvm.MethodName) prog_1_method_22_code (4 : Nat) (Option.some Jvm.ClassFile.FieldType.int)) ∈ wAll := wAll_in (tb_5 (List.mem_of_getElem? (i := 25) rfl)) rfl
theorem wm_5_26 : (Jvm.Cond.methodLink "Gridmender" (185 : Nat) ({ cls := "Gridmender", name := "needState", desc := "(Z)V" } : Jvm.MethodName)) ∈ wAll := wAll_in (tb_5 (List.mem_of_getElem? (i := 26) rfl)) rfl
theorem wm_5_27 : (Jvm.Cond.static ({ cls := "Gridmender", name := "needState", desc := "(Z)V" } : Jvm.MethodName)) ∈ wAll := wAll_in (tb_5 (List.mem_of_getElem? (i := 27) rfl)) rfl
theorem wm_5_28 : (Jvm.Cond.code ({ cls := "Gridmender", name := "needState", desc := "(Z)V" } : Jvm.MethodName) prog_1_method_39_code (1 : Nat) (Option.none : Option Jvm.ClassFile.FieldType)) ∈ wAll := wAll_in (tb_5 (List.mem_of_getElem? (i := 28) rfl)) rfl
theorem wm_5_29 : (Jvm.Cond.classLink "Gridmender" (223 : Nat) "java/lang/IllegalStateException") ∈ wAll := wAll_in (tb_5 (List.mem_of_getElem? (i := 29) rfl)) rfl
theorem wm_5_30 : (Jvm.Cond.instantiable "java/lang/IllegalStateException" (6 : Nat)) ∈ wAll := wAll_in (tb_5 (List.mem_of_getElem? (i := 30) rfl)) rfl
theorem wn_5_31 : (Jvm.Cond.castable "java/lang/IllegalStateException" "java/lang/IllegalStateException") ∈ wNest := wNest_in (tb_5 (List.mem_of_getElem? (i := 31) rfl)) rfl
theorem wm_5_32 : (Jvm.Cond.selects "java/lang/IllegalStateException" ({ cls := "java/lang/Throwable", name := "fillInStackTrace", desc := "(I)Ljava/lang/Throwable;" } : Jvm.MethodName) ({ cls := "java/lang/Throwable", name := "fillInStackTrace", desc := "(I)Ljava/lang/Throwable;" } : Jvm.MethodName)) ∈ wAll := wAll_in (tb_5 (List.mem_of_getElem? (i := 32) rfl)) rfl
theorem wt_5_38 : (Jvm.Cond.stringRef "Gridmender" (283 : Nat) "the table does not allow it") ∈ lw_tbl := tb_5 (List.mem_of_getElem? (i := 38) rfl)
theorem wm_5_39 : (Jvm.Cond.methodLink "Gridmender" (227 : Nat) ({ cls := "java/lang/IllegalStateException", name := "<init>", desc := "(Ljava/lang/String;)V" } : Jvm.MethodName)) ∈ wAll := wAll_in (tb_5 (List.mem_of_getElem? (i := 39) rfl)) rfl
theorem wm_5_40 : (Jvm.Cond.instanceMethod ({ cls := "java/lang/IllegalStateException", name := "<init>", desc := "(Ljava/lang/String;)V" } : Jvm.MethodName)) ∈ wAll := wAll_in (tb_5 (List.mem_of_getElem? (i := 40) rfl)) rfl
theorem wm_5_41 : (Jvm.Cond.code ({ cls := "java/lang/IllegalStateException", name := "<init>", desc := "(Ljava/lang/String;)V" } : Jvm.MethodName) prog_17_method_2_code (2 : Nat) (Option.none : Option Jvm.ClassFile.FieldType)) ∈ wAll := wAll_in (tb_5 (List.mem_of_getElem? (i := 41) rfl)) rfl
theorem wm_5_42 : (Jvm.Cond.methodLink "java/lang/IllegalStateException" (7 : Nat) ({ cls := "java/lang/RuntimeException", name := "<init>", desc := "(Ljava/lang/String;)V" } : Jvm.MethodName)) ∈ wAll := wAll_in (tb_5 (List.mem_of_getElem? (i := 42) rfl)) rfl
theorem wm_5_44 : (Jvm.Cond.superclass "java/lang/IllegalStateException" "java/lang/RuntimeException") ∈ wAll := wAll_in (tb_5 (List.mem_of_getElem? (i := 44) rfl)) rfl
theorem wm_5_45 : (Jvm.Cond.methodLink "GridmenderLaw" (214 : Nat) ({ cls := "GridmenderLaw", name := "minor", desc := "(LGridmender;IIILGridmenderLaw$Out;)I" } : Jvm.MethodName)) ∈ wAll := wAll_in (tb_5 (List.mem_of_getElem? (i := 45) rfl)) rfl
theorem wm_5_46 : (Jvm.Cond.static ({ cls := "GridmenderLaw", name := "minor", desc := "(LGridmender;IIILGridmenderLaw$Out;)I" } : Jvm.MethodName)) ∈ wAll := wAll_in (tb_5 (List.mem_of_getElem? (i := 46) rfl)) rfl
theorem wm_5_47 : (Jvm.Cond.codeWith ({ cls := "GridmenderLaw", name := "minor", desc := "(LGridmender;IIILGridmenderLaw$Out;)I" } : Jvm.MethodName) method_23_code (6 : Nat) (Option.some Jvm.ClassFile.FieldType.int) [((0 : Nat), (13 : Nat), (16 : Nat), (19 : Nat)), ((0 : Nat), (13 : Nat), (20 : Nat), (21 : Nat))]) ∈ wAll := wAll_in (tb_5 (List.mem_of_getElem? (i := 47) rfl)) rfl
theorem wm_5_48 : (Jvm.Cond.methodLink "GridmenderLaw" (99 : Nat) ({ cls := "Gridmender", name := "minor", desc := "(III)I" } : Jvm.MethodName)) ∈ wAll := wAll_in (tb_5 (List.mem_of_getElem? (i := 48) rfl)) rfl
theorem wm_5_49 : (Jvm.Cond.instanceMethod ({ cls := "Gridmender", name := "minor", desc := "(III)I" } : Jvm.MethodName)) ∈ wAll := wAll_in (tb_5 (List.mem_of_getElem? (i := 49) rfl)) rfl
theorem wm_5_50 : (Jvm.Cond.selects "Gridmender" ({ cls := "Gridmender", name := "minor", desc := "(III)I" } : Jvm.MethodName) ({ cls := "Gridmender", name := "minor", desc := "(III)I" } : Jvm.MethodName)) ∈ wAll := wAll_in (tb_5 (List.mem_of_getElem? (i := 50) rfl)) rfl
theorem wm_5_51 : (Jvm.Cond.code ({ cls := "Gridmender", name := "minor", desc := "(III)I" } : Jvm.MethodName) prog_1_method_23_code (5 : Nat) (Option.some Jvm.ClassFile.FieldType.int)) ∈ wAll := wAll_in (tb_5 (List.mem_of_getElem? (i := 51) rfl)) rfl
theorem wm_5_52 : (Jvm.Cond.methodLink "Gridmender" (204 : Nat) ({ cls := "java/lang/Integer", name := "bitCount", desc := "(I)I" } : Jvm.MethodName)) ∈ wAll := wAll_in (tb_5 (List.mem_of_getElem? (i := 52) rfl)) rfl
theorem wm_5_53 : (Jvm.Cond.methodLink "Gridmender" (209 : Nat) ({ cls := "Gridmender$Determinants", name := "ofRest", desc := "(LGridmender$Grid;III)J" } : Jvm.MethodName)) ∈ wAll := wAll_in (tb_5 (List.mem_of_getElem? (i := 53) rfl)) rfl
theorem wm_5_54 : (Jvm.Cond.methodLink "GridmenderLaw" (217 : Nat) ({ cls := "GridmenderLaw", name := "divisor", desc := "(LGridmender;IILGridmenderLaw$Out;)I" } : Jvm.MethodName)) ∈ wAll := wAll_in (tb_5 (List.mem_of_getElem? (i := 54) rfl)) rfl
theorem wm_5_55 : (Jvm.Cond.static ({ cls := "GridmenderLaw", name := "divisor", desc := "(LGridmender;IILGridmenderLaw$Out;)I" } : Jvm.MethodName)) ∈ wAll := wAll_in (tb_5 (List.mem_of_getElem? (i := 55) rfl)) rfl
theorem wm_5_56 : (Jvm.Cond.codeWith ({ cls := "GridmenderLaw", name := "divisor", desc := "(LGridmender;IILGridmenderLaw$Out;)I" } : Jvm.MethodName) method_24_code (5 : Nat) (Option.some Jvm.ClassFile.FieldType.int) [((0 : Nat), (11 : Nat), (14 : Nat), (19 : Nat)), ((0 : Nat), (11 : Nat), (18 : Nat), (21 : Nat))]) ∈ wAll := wAll_in (tb_5 (List.mem_of_getElem? (i := 56) rfl)) rfl
theorem wm_5_57 : (Jvm.Cond.methodLink "GridmenderLaw" (102 : Nat) ({ cls := "Gridmender", name := "divisor", desc := "(II)I" } : Jvm.MethodName)) ∈ wAll := wAll_in (tb_5 (List.mem_of_getElem? (i := 57) rfl)) rfl
theorem wm_5_58 : (Jvm.Cond.instanceMethod ({ cls := "Gridmender", name := "divisor", desc := "(II)I" } : Jvm.MethodName)) ∈ wAll := wAll_in (tb_5 (List.mem_of_getElem? (i := 58) rfl)) rfl
theorem wm_5_59 : (Jvm.Cond.selects "Gridmender" ({ cls := "Gridmender", name := "divisor", desc := "(II)I" } : Jvm.MethodName) ({ cls := "Gridmender", name := "divisor", desc := "(II)I" } : Jvm.MethodName)) ∈ wAll := wAll_in (tb_5 (List.mem_of_getElem? (i := 59) rfl)) rfl
theorem wm_5_60 : (Jvm.Cond.code ({ cls := "Gridmender", name := "divisor", desc := "(II)I" } : Jvm.MethodName) prog_1_method_24_code (4 : Nat) (Option.some Jvm.ClassFile.FieldType.int)) ∈ wAll := wAll_in (tb_5 (List.mem_of_getElem? (i := 60) rfl)) rfl
theorem wm_5_61 : (Jvm.Cond.methodLink "GridmenderLaw" (220 : Nat) ({ cls := "GridmenderLaw", name := "rank", desc := "(LGridmender;IILGridmenderLaw$Out;)I" } : Jvm.MethodName)) ∈ wAll := wAll_in (tb_5 (List.mem_of_getElem? (i := 61) rfl)) rfl
theorem wm_5_62 : (Jvm.Cond.static ({ cls := "GridmenderLaw", name := "rank", desc := "(LGridmender;IILGridmenderLaw$Out;)I" } : Jvm.MethodName)) ∈ wAll := wAll_in (tb_5 (List.mem_of_getElem? (i := 62) rfl)) rfl
theorem wm_5_63 : (Jvm.Cond.codeWith ({ cls := "GridmenderLaw", name := "rank", desc := "(LGridmender;IILGridmenderLaw$Out;)I" } : Jvm.MethodName) method_25_code (5 : Nat) (Option.some Jvm.ClassFile.FieldType.int) [((0 : Nat), (11 : Nat), (14 : Nat), (19 : Nat)), ((0 : Nat), (11 : Nat), (18 : Nat), (21 : Nat)), ((0 : Nat), (11 : Nat), (22 : Nat), (97 : Nat))]) ∈ wAll := wAll_in (tb_5 (List.mem_of_getElem? (i := 63) rfl)) rfl
theorem wm_5_64 : (Jvm.Cond.methodLink "GridmenderLaw" (105 : Nat) ({ cls := "Gridmender", name := "rank", desc := "(II)I" } : Jvm.MethodName)) ∈ wAll := wAll_in (tb_5 (List.mem_of_getElem? (i := 64) rfl)) rfl
theorem wm_5_65 : (Jvm.Cond.instanceMethod ({ cls := "Gridmender", name := "rank", desc := "(II)I" } : Jvm.MethodName)) ∈ wAll := wAll_in (tb_5 (List.mem_of_getElem? (i := 65) rfl)) rfl
theorem wm_5_66 : (Jvm.Cond.selects "Gridmender" ({ cls := "Gridmender", name := "rank", desc := "(II)I" } : Jvm.MethodName) ({ cls := "Gridmender", name := "rank", desc := "(II)I" } : Jvm.MethodName)) ∈ wAll := wAll_in (tb_5 (List.mem_of_getElem? (i := 66) rfl)) rfl
theorem wm_5_67 : (Jvm.Cond.code ({ cls := "Gridmender", name := "rank", desc := "(II)I" } : Jvm.MethodName) prog_1_method_25_code (4 : Nat) (Option.some Jvm.ClassFile.FieldType.int)) ∈ wAll := wAll_in (tb_5 (List.mem_of_getElem? (i := 67) rfl)) rfl
theorem wm_5_68 : (Jvm.Cond.methodLink "GridmenderLaw" (223 : Nat) ({ cls := "GridmenderLaw", name := "told", desc := "(LGridmender;IIIILGridmenderLaw$Out;)I" } : Jvm.MethodName)) ∈ wAll := wAll_in (tb_5 (List.mem_of_getElem? (i := 68) rfl)) rfl
theorem wm_5_69 : (Jvm.Cond.static ({ cls := "GridmenderLaw", name := "told", desc := "(LGridmender;IIIILGridmenderLaw$Out;)I" } : Jvm.MethodName)) ∈ wAll := wAll_in (tb_5 (List.mem_of_getElem? (i := 69) rfl)) rfl
theorem wm_5_70 : (Jvm.Cond.codeWith ({ cls := "GridmenderLaw", name := "told", desc := "(LGridmender;IIIILGridmenderLaw$Out;)I" } : Jvm.MethodName) method_26_code (7 : Nat) (Option.some Jvm.ClassFile.FieldType.int) [((0 : Nat), (15 : Nat), (18 : Nat), (19 : Nat)), ((0 : Nat), (15 : Nat), (22 : Nat), (21 : Nat)), ((0 : Nat), (15 : Nat), (26 : Nat), (97 : Nat))]) ∈ wAll := wAll_in (tb_5 (List.mem_of_getElem? (i := 70) rfl)) rfl
theorem wm_5_71 : (Jvm.Cond.methodLink "GridmenderLaw" (108 : Nat) ({ cls := "Gridmender", name := "told", desc := "(IIII)I" } : Jvm.MethodName)) ∈ wAll := wAll_in (tb_5 (List.mem_of_getElem? (i := 71) rfl)) rfl
theorem wm_5_72 : (Jvm.Cond.instanceMethod ({ cls := "Gridmender", name := "told", desc := "(IIII)I" } : Jvm.MethodName)) ∈ wAll := wAll_in (tb_5 (List.mem_of_getElem? (i := 72) rfl)) rfl
theorem wm_5_73 : (Jvm.Cond.selects "Gridmender" ({ cls := "Gridmender", name := "told", desc := "(IIII)I" } : Jvm.MethodName) ({ cls := "Gridmender", name := "told", desc := "(IIII)I" } : Jvm.MethodName)) ∈ wAll := wAll_in (tb_5 (List.mem_of_getElem? (i := 73) rfl)) rfl
theorem wm_5_74 : (Jvm.Cond.code ({ cls := "Gridmender", name := "told", desc := "(IIII)I" } : Jvm.MethodName) prog_1_method_26_code (9 : Nat) (Option.some Jvm.ClassFile.FieldType.int)) ∈ wAll := wAll_in (tb_5 (List.mem_of_getElem? (i := 74) rfl)) rfl
theorem wt_5_75 : (Jvm.Cond.stringRef "Gridmender" (225 : Nat) "the steps are great") ∈ lw_tbl := tb_5 (List.mem_of_getElem? (i := 75) rfl)
theorem wm_5_76 : (Jvm.Cond.methodLink "GridmenderLaw" (226 : Nat) ({ cls := "GridmenderLaw", name := "change", desc := "(LGridmender;IILGridmenderLaw$Out;)I" } : Jvm.MethodName)) ∈ wAll := wAll_in (tb_5 (List.mem_of_getElem? (i := 76) rfl)) rfl
theorem wm_5_77 : (Jvm.Cond.static ({ cls := "GridmenderLaw", name := "change", desc := "(LGridmender;IILGridmenderLaw$Out;)I" } : Jvm.MethodName)) ∈ wAll := wAll_in (tb_5 (List.mem_of_getElem? (i := 77) rfl)) rfl
theorem wm_5_78 : (Jvm.Cond.codeWith ({ cls := "GridmenderLaw", name := "change", desc := "(LGridmender;IILGridmenderLaw$Out;)I" } : Jvm.MethodName) method_27_code (5 : Nat) (Option.some Jvm.ClassFile.FieldType.int) [((0 : Nat), (11 : Nat), (14 : Nat), (19 : Nat)), ((0 : Nat), (11 : Nat), (18 : Nat), (21 : Nat)), ((0 : Nat), (11 : Nat), (22 : Nat), (97 : Nat))]) ∈ wAll := wAll_in (tb_5 (List.mem_of_getElem? (i := 78) rfl)) rfl
theorem wm_5_79 : (Jvm.Cond.methodLink "GridmenderLaw" (111 : Nat) ({ cls := "Gridmender", name := "change", desc := "(II)I" } : Jvm.MethodName)) ∈ wAll := wAll_in (tb_5 (List.mem_of_getElem? (i := 79) rfl)) rfl
theorem wm_5_80 : (Jvm.Cond.instanceMethod ({ cls := "Gridmender", name := "change", desc := "(II)I" } : Jvm.MethodName)) ∈ wAll := wAll_in (tb_5 (List.mem_of_getElem? (i := 80) rfl)) rfl
theorem wm_5_81 : (Jvm.Cond.selects "Gridmender" ({ cls := "Gridmender", name := "change", desc := "(II)I" } : Jvm.MethodName) ({ cls := "Gridmender", name := "change", desc := "(II)I" } : Jvm.MethodName)) ∈ wAll := wAll_in (tb_5 (List.mem_of_getElem? (i := 81) rfl)) rfl
theorem wm_5_82 : (Jvm.Cond.code ({ cls := "Gridmender", name := "change", desc := "(II)I" } : Jvm.MethodName) prog_1_method_27_code (5 : Nat) (Option.some Jvm.ClassFile.FieldType.int)) ∈ wAll := wAll_in (tb_5 (List.mem_of_getElem? (i := 82) rfl)) rfl
theorem wm_5_83 : (Jvm.Cond.methodLink "GridmenderLaw" (229 : Nat) ({ cls := "GridmenderLaw", name := "isSolvable", desc := "(LGridmender;IIIILGridmenderLaw$Out;)I" } : Jvm.MethodName)) ∈ wAll := wAll_in (tb_5 (List.mem_of_getElem? (i := 83) rfl)) rfl
theorem wm_5_84 : (Jvm.Cond.static ({ cls := "GridmenderLaw", name := "isSolvable", desc := "(LGridmender;IIIILGridmenderLaw$Out;)I" } : Jvm.MethodName)) ∈ wAll := wAll_in (tb_5 (List.mem_of_getElem? (i := 84) rfl)) rfl
theorem wm_5_85 : (Jvm.Cond.codeWith ({ cls := "GridmenderLaw", name := "isSolvable", desc := "(LGridmender;IIIILGridmenderLaw$Out;)I" } : Jvm.MethodName) method_28_code (7 : Nat) (Option.some Jvm.ClassFile.FieldType.int) [((0 : Nat), (22 : Nat), (25 : Nat), (19 : Nat)), ((0 : Nat), (22 : Nat), (29 : Nat), (21 : Nat)), ((0 : Nat), (22 : Nat), (33 : Nat), (97 : Nat))]) ∈ wAll := wAll_in (tb_5 (List.mem_of_getElem? (i := 85) rfl)) rfl
theorem wm_5_86 : (Jvm.Cond.methodLink "GridmenderLaw" (114 : Nat) ({ cls := "Gridmender", name := "isSolvable", desc := "(IIII)Z" } : Jvm.MethodName)) ∈ wAll := wAll_in (tb_5 (List.mem_of_getElem? (i := 86) rfl)) rfl
theorem wm_5_87 : (Jvm.Cond.instanceMethod ({ cls := "Gridmender", name := "isSolvable", desc := "(IIII)Z" } : Jvm.MethodName)) ∈ wAll := wAll_in (tb_5 (List.mem_of_getElem? (i := 87) rfl)) rfl
theorem wm_5_88 : (Jvm.Cond.selects "Gridmender" ({ cls := "Gridmender", name := "isSolvable", desc := "(IIII)Z" } : Jvm.MethodName) ({ cls := "Gridmender", name := "isSolvable", desc := "(IIII)Z" } : Jvm.MethodName)) ∈ wAll := wAll_in (tb_5 (List.mem_of_getElem? (i := 88) rfl)) rfl
theorem wm_5_89 : (Jvm.Cond.code ({ cls := "Gridmender", name := "isSolvable", desc := "(IIII)Z" } : Jvm.MethodName) prog_1_method_28_code (8 : Nat) (Option.some Jvm.ClassFile.FieldType.boolean)) ∈ wAll := wAll_in (tb_5 (List.mem_of_getElem? (i := 89) rfl)) rfl
theorem wm_5_90 : (Jvm.Cond.methodLink "GridmenderLaw" (232 : Nat) ({ cls := "GridmenderLaw", name := "restColumn", desc := "(LGridmender;IIILGridmenderLaw$Out;)I" } : Jvm.MethodName)) ∈ wAll := wAll_in (tb_5 (List.mem_of_getElem? (i := 90) rfl)) rfl
theorem wm_5_91 : (Jvm.Cond.static ({ cls := "GridmenderLaw", name := "restColumn", desc := "(LGridmender;IIILGridmenderLaw$Out;)I" } : Jvm.MethodName)) ∈ wAll := wAll_in (tb_5 (List.mem_of_getElem? (i := 91) rfl)) rfl
theorem wm_5_92 : (Jvm.Cond.codeWith ({ cls := "GridmenderLaw", name := "restColumn", desc := "(LGridmender;IIILGridmenderLaw$Out;)I" } : Jvm.MethodName) method_29_code (6 : Nat) (Option.some Jvm.ClassFile.FieldType.int) [((0 : Nat), (13 : Nat), (16 : Nat), (19 : Nat)), ((0 : Nat), (13 : Nat), (20 : Nat), (97 : Nat)), ((0 : Nat), (13 : Nat), (24 : Nat), (21 : Nat))]) ∈ wAll := wAll_in (tb_5 (List.mem_of_getElem? (i := 92) rfl)) rfl
theorem wm_5_93 : (Jvm.Cond.methodLink "GridmenderLaw" (118 : Nat) ({ cls := "Gridmender", name := "restColumn", desc := "(III)I" } : Jvm.MethodName)) ∈ wAll := wAll_in (tb_5 (List.mem_of_getElem? (i := 93) rfl)) rfl
theorem wm_5_94 : (Jvm.Cond.instanceMethod ({ cls := "Gridmender", name := "restColumn", desc := "(III)I" } : Jvm.MethodName)) ∈ wAll := wAll_in (tb_5 (List.mem_of_getElem? (i := 94) rfl)) rfl
theorem wm_5_95 : (Jvm.Cond.selects "Gridmender" ({ cls := "Gridmender", name := "restColumn", desc := "(III)I" } : Jvm.MethodName) ({ cls := "Gridmender", name := "restColumn", desc := "(III)I" } : Jvm.MethodName)) ∈ wAll := wAll_in (tb_5 (List.mem_of_getElem? (i := 95) rfl)) rfl
theorem wm_5_96 : (Jvm.Cond.code ({ cls := "Gridmender", name := "restColumn", desc := "(III)I" } : Jvm.MethodName) prog_1_method_29_code (6 : Nat) (Option.some Jvm.ClassFile.FieldType.int)) ∈ wAll := wAll_in (tb_5 (List.mem_of_getElem? (i := 96) rfl)) rfl
theorem wm_5_97 : (Jvm.Cond.methodLink "Gridmender" (230 : Nat) ({ cls := "Gridmender$DiagonalSteps", name := "countRank", desc := "()I" } : Jvm.MethodName)) ∈ wAll := wAll_in (tb_5 (List.mem_of_getElem? (i := 97) rfl)) rfl
theorem wm_5_98 : (Jvm.Cond.methodLink "GridmenderLaw" (235 : Nat) ({ cls := "GridmenderLaw", name := "rest", desc := "(LGridmender;IILGridmenderLaw$Out;)I" } : Jvm.MethodName)) ∈ wAll := wAll_in (tb_5 (List.mem_of_getElem? (i := 98) rfl)) rfl
theorem wm_5_99 : (Jvm.Cond.static ({ cls := "GridmenderLaw", name := "rest", desc := "(LGridmender;IILGridmenderLaw$Out;)I" } : Jvm.MethodName)) ∈ wAll := wAll_in (tb_5 (List.mem_of_getElem? (i := 99) rfl)) rfl
theorem wm_5_100 : (Jvm.Cond.codeWith ({ cls := "GridmenderLaw", name := "rest", desc := "(LGridmender;IILGridmenderLaw$Out;)I" } : Jvm.MethodName) method_30_code (5 : Nat) (Option.some Jvm.ClassFile.FieldType.int) [((0 : Nat), (10 : Nat), (13 : Nat), (19 : Nat)), ((0 : Nat), (10 : Nat), (17 : Nat), (97 : Nat)), ((0 : Nat), (10 : Nat), (21 : Nat), (21 : Nat))]) ∈ wAll := wAll_in (tb_5 (List.mem_of_getElem? (i := 100) rfl)) rfl
theorem wm_5_101 : (Jvm.Cond.methodLink "GridmenderLaw" (121 : Nat) ({ cls := "Gridmender", name := "rest", desc := "(II)Ljava/lang/String;" } : Jvm.MethodName)) ∈ wAll := wAll_in (tb_5 (List.mem_of_getElem? (i := 101) rfl)) rfl
theorem wm_5_102 : (Jvm.Cond.instanceMethod ({ cls := "Gridmender", name := "rest", desc := "(II)Ljava/lang/String;" } : Jvm.MethodName)) ∈ wAll := wAll_in (tb_5 (List.mem_of_getElem? (i := 102) rfl)) rfl
theorem wm_5_103 : (Jvm.Cond.selects "Gridmender" ({ cls := "Gridmender", name := "rest", desc := "(II)Ljava/lang/String;" } : Jvm.MethodName) ({ cls := "Gridmender", name := "rest", desc := "(II)Ljava/lang/String;" } : Jvm.MethodName)) ∈ wAll := wAll_in (tb_5 (List.mem_of_getElem? (i := 103) rfl)) rfl
theorem wm_5_104 : (Jvm.Cond.code ({ cls := "Gridmender", name := "rest", desc := "(II)Ljava/lang/String;" } : Jvm.MethodName) prog_1_method_30_code (9 : Nat) (Option.some (Jvm.ClassFile.FieldType.object "java/lang/String"))) ∈ wAll := wAll_in (tb_5 (List.mem_of_getElem? (i := 104) rfl)) rfl
theorem wm_5_105 : (Jvm.Cond.methodLink "Gridmender" (236 : Nat) ({ cls := "Gridmender", name := "leavesRests", desc := "(LGridmender$Grid;)Z" } : Jvm.MethodName)) ∈ wAll := wAll_in (tb_5 (List.mem_of_getElem? (i := 105) rfl)) rfl
theorem wn_5_106 : (Jvm.Cond.privateMethod ({ cls := "Gridmender", name := "leavesRests", desc := "(LGridmender$Grid;)Z" } : Jvm.MethodName)) ∈ wNest := wNest_in (tb_5 (List.mem_of_getElem? (i := 106) rfl)) rfl
theorem wm_5_107 : (Jvm.Cond.instanceMethod ({ cls := "Gridmender", name := "leavesRests", desc := "(LGridmender$Grid;)Z" } : Jvm.MethodName)) ∈ wAll := wAll_in (tb_5 (List.mem_of_getElem? (i := 107) rfl)) rfl
theorem wm_5_108 : (Jvm.Cond.code ({ cls := "Gridmender", name := "leavesRests", desc := "(LGridmender$Grid;)Z" } : Jvm.MethodName) prog_1_method_47_code (2 : Nat) (Option.some Jvm.ClassFile.FieldType.boolean)) ∈ wAll := wAll_in (tb_5 (List.mem_of_getElem? (i := 108) rfl)) rfl
theorem wm_5_109 : (Jvm.Cond.methodLink "Gridmender" (242 : Nat) ({ cls := "Gridmender", name := "setRowNumber", desc := "(IJ)V" } : Jvm.MethodName)) ∈ wAll := wAll_in (tb_5 (List.mem_of_getElem? (i := 109) rfl)) rfl
theorem wn_5_110 : (Jvm.Cond.privateMethod ({ cls := "Gridmender", name := "setRowNumber", desc := "(IJ)V" } : Jvm.MethodName)) ∈ wNest := wNest_in (tb_5 (List.mem_of_getElem? (i := 110) rfl)) rfl
theorem wm_5_111 : (Jvm.Cond.instanceMethod ({ cls := "Gridmender", name := "setRowNumber", desc := "(IJ)V" } : Jvm.MethodName)) ∈ wAll := wAll_in (tb_5 (List.mem_of_getElem? (i := 111) rfl)) rfl
theorem wm_5_112 : (Jvm.Cond.code ({ cls := "Gridmender", name := "setRowNumber", desc := "(IJ)V" } : Jvm.MethodName) prog_1_method_49_code (4 : Nat) (Option.none : Option Jvm.ClassFile.FieldType)) ∈ wAll := wAll_in (tb_5 (List.mem_of_getElem? (i := 112) rfl)) rfl
theorem wm_5_113 : (Jvm.Cond.methodLink "Gridmender" (246 : Nat) ({ cls := "Gridmender", name := "divideDown", desc := "(JJ)J" } : Jvm.MethodName)) ∈ wAll := wAll_in (tb_5 (List.mem_of_getElem? (i := 113) rfl)) rfl
theorem wm_5_114 : (Jvm.Cond.methodLink "Gridmender" (249 : Nat) ({ cls := "Gridmender", name := "rowNumber", desc := "(I)J" } : Jvm.MethodName)) ∈ wAll := wAll_in (tb_5 (List.mem_of_getElem? (i := 114) rfl)) rfl
theorem wn_5_115 : (Jvm.Cond.privateMethod ({ cls := "Gridmender", name := "rowNumber", desc := "(I)J" } : Jvm.MethodName)) ∈ wNest := wNest_in (tb_5 (List.mem_of_getElem? (i := 115) rfl)) rfl
theorem wm_5_116 : (Jvm.Cond.instanceMethod ({ cls := "Gridmender", name := "rowNumber", desc := "(I)J" } : Jvm.MethodName)) ∈ wAll := wAll_in (tb_5 (List.mem_of_getElem? (i := 116) rfl)) rfl
theorem wm_5_117 : (Jvm.Cond.code ({ cls := "Gridmender", name := "rowNumber", desc := "(I)J" } : Jvm.MethodName) prog_1_method_48_code (2 : Nat) (Option.some Jvm.ClassFile.FieldType.long)) ∈ wAll := wAll_in (tb_5 (List.mem_of_getElem? (i := 117) rfl)) rfl
theorem wm_5_118 : (Jvm.Cond.methodLink "GridmenderLaw" (238 : Nat) ({ cls := "GridmenderLaw", name := "restOf", desc := "(LGridmender;IIILGridmenderLaw$Out;)I" } : Jvm.MethodName)) ∈ wAll := wAll_in (tb_5 (List.mem_of_getElem? (i := 118) rfl)) rfl
theorem wm_5_119 : (Jvm.Cond.static ({ cls := "GridmenderLaw", name := "restOf", desc := "(LGridmender;IIILGridmenderLaw$Out;)I" } : Jvm.MethodName)) ∈ wAll := wAll_in (tb_5 (List.mem_of_getElem? (i := 119) rfl)) rfl
theorem wm_5_120 : (Jvm.Cond.codeWith ({ cls := "GridmenderLaw", name := "restOf", desc := "(LGridmender;IIILGridmenderLaw$Out;)I" } : Jvm.MethodName) method_31_code (6 : Nat) (Option.some Jvm.ClassFile.FieldType.int) [((0 : Nat), (13 : Nat), (16 : Nat), (19 : Nat)), ((0 : Nat), (13 : Nat), (20 : Nat), (97 : Nat)), ((0 : Nat), (13 : Nat), (24 : Nat), (21 : Nat))]) ∈ wAll := wAll_in (tb_5 (List.mem_of_getElem? (i := 120) rfl)) rfl
theorem wm_5_121 : (Jvm.Cond.methodLink "GridmenderLaw" (125 : Nat) ({ cls := "Gridmender", name := "restOf", desc := "(III)I" } : Jvm.MethodName)) ∈ wAll := wAll_in (tb_5 (List.mem_of_getElem? (i := 121) rfl)) rfl
theorem wm_5_122 : (Jvm.Cond.instanceMethod ({ cls := "Gridmender", name := "restOf", desc := "(III)I" } : Jvm.MethodName)) ∈ wAll := wAll_in (tb_5 (List.mem_of_getElem? (i := 122) rfl)) rfl
theorem wm_5_123 : (Jvm.Cond.selects "Gridmender" ({ cls := "Gridmender", name := "restOf", desc := "(III)I" } : Jvm.MethodName) ({ cls := "Gridmender", name := "restOf", desc := "(III)I" } : Jvm.MethodName)) ∈ wAll := wAll_in (tb_5 (List.mem_of_getElem? (i := 123) rfl)) rfl
theorem wm_5_124 : (Jvm.Cond.code ({ cls := "Gridmender", name := "restOf", desc := "(III)I" } : Jvm.MethodName) prog_1_method_31_code (14 : Nat) (Option.some Jvm.ClassFile.FieldType.int)) ∈ wAll := wAll_in (tb_5 (List.mem_of_getElem? (i := 124) rfl)) rfl
theorem wm_5_125 : (Jvm.Cond.methodLink "GridmenderLaw" (241 : Nat) ({ cls := "GridmenderLaw", name := "house", desc := "(LGridmender;ILGridmenderLaw$Out;)I" } : Jvm.MethodName)) ∈ wAll := wAll_in (tb_5 (List.mem_of_getElem? (i := 125) rfl)) rfl
theorem wm_5_126 : (Jvm.Cond.static ({ cls := "GridmenderLaw", name := "house", desc := "(LGridmender;ILGridmenderLaw$Out;)I" } : Jvm.MethodName)) ∈ wAll := wAll_in (tb_5 (List.mem_of_getElem? (i := 126) rfl)) rfl
theorem wm_5_127 : (Jvm.Cond.codeWith ({ cls := "GridmenderLaw", name := "house", desc := "(LGridmender;ILGridmenderLaw$Out;)I" } : Jvm.MethodName) method_32_code (4 : Nat) (Option.some Jvm.ClassFile.FieldType.int) [((0 : Nat), (10 : Nat), (13 : Nat), (21 : Nat))]) ∈ wAll := wAll_in (tb_5 (List.mem_of_getElem? (i := 127) rfl)) rfl
theorem wm_5_128 : (Jvm.Cond.methodLink "GridmenderLaw" (128 : Nat) ({ cls := "Gridmender", name := "house", desc := "(I)I" } : Jvm.MethodName)) ∈ wAll := wAll_in (tb_5 (List.mem_of_getElem? (i := 128) rfl)) rfl
theorem wm_5_129 : (Jvm.Cond.instanceMethod ({ cls := "Gridmender", name := "house", desc := "(I)I" } : Jvm.MethodName)) ∈ wAll := wAll_in (tb_5 (List.mem_of_getElem? (i := 129) rfl)) rfl
theorem wm_5_130 : (Jvm.Cond.selects "Gridmender" ({ cls := "Gridmender", name := "house", desc := "(I)I" } : Jvm.MethodName) ({ cls := "Gridmender", name := "house", desc := "(I)I" } : Jvm.MethodName)) ∈ wAll := wAll_in (tb_5 (List.mem_of_getElem? (i := 130) rfl)) rfl
theorem wm_5_131 : (Jvm.Cond.code ({ cls := "Gridmender", name := "house", desc := "(I)I" } : Jvm.MethodName) prog_1_method_32_code (2 : Nat) (Option.some Jvm.ClassFile.FieldType.int)) ∈ wAll := wAll_in (tb_5 (List.mem_of_getElem? (i := 131) rfl)) rfl
theorem wm_5_132 : (Jvm.Cond.classLink "GridmenderLaw" (132 : Nat) "GridmenderModel") ∈ wAll := wAll_in (tb_5 (List.mem_of_getElem? (i := 132) rfl)) rfl
theorem wm_5_133 : (Jvm.Cond.instantiable "GridmenderModel" (5 : Nat)) ∈ wAll := wAll_in (tb_5 (List.mem_of_getElem? (i := 133) rfl)) rfl
theorem wm_5_134 : (Jvm.Cond.methodLink "GridmenderLaw" (134 : Nat) ({ cls := "GridmenderModel", name := "<init>", desc := "()V" } : Jvm.MethodName)) ∈ wAll := wAll_in (tb_5 (List.mem_of_getElem? (i := 134) rfl)) rfl
theorem wm_5_135 : (Jvm.Cond.instanceMethod ({ cls := "GridmenderModel", name := "<init>", desc := "()V" } : Jvm.MethodName)) ∈ wAll := wAll_in (tb_5 (List.mem_of_getElem? (i := 135) rfl)) rfl
theorem wm_5_136 : (Jvm.Cond.code ({ cls := "GridmenderModel", name := "<init>", desc := "()V" } : Jvm.MethodName) prog_9_method_2_code (2 : Nat) (Option.none : Option Jvm.ClassFile.FieldType)) ∈ wAll := wAll_in (tb_5 (List.mem_of_getElem? (i := 136) rfl)) rfl
theorem wm_5_137 : (Jvm.Cond.methodLink "GridmenderModel" (13 : Nat) ({ cls := "java/lang/Object", name := "<init>", desc := "()V" } : Jvm.MethodName)) ∈ wAll := wAll_in (tb_5 (List.mem_of_getElem? (i := 137) rfl)) rfl
theorem wm_5_138 : (Jvm.Cond.classLink "GridmenderModel" (19 : Nat) "GridmenderModel$Grid") ∈ wAll := wAll_in (tb_5 (List.mem_of_getElem? (i := 138) rfl)) rfl
theorem wt_5_139 : (Jvm.Cond.arrayOver (Jvm.ClassFile.FieldType.object "GridmenderModel$Grid")) ∈ lw_tbl := tb_5 (List.mem_of_getElem? (i := 139) rfl)
theorem wm_5_140 : (Jvm.Cond.instantiable "GridmenderModel$Grid" (3 : Nat)) ∈ wAll := wAll_in (tb_5 (List.mem_of_getElem? (i := 140) rfl)) rfl
theorem wm_5_141 : (Jvm.Cond.methodLink "GridmenderModel" (25 : Nat) ({ cls := "GridmenderModel$Grid", name := "<init>", desc := "(II)V" } : Jvm.MethodName)) ∈ wAll := wAll_in (tb_5 (List.mem_of_getElem? (i := 141) rfl)) rfl
theorem wm_5_142 : (Jvm.Cond.instanceMethod ({ cls := "GridmenderModel$Grid", name := "<init>", desc := "(II)V" } : Jvm.MethodName)) ∈ wAll := wAll_in (tb_5 (List.mem_of_getElem? (i := 142) rfl)) rfl
theorem wm_5_143 : (Jvm.Cond.code ({ cls := "GridmenderModel$Grid", name := "<init>", desc := "(II)V" } : Jvm.MethodName) prog_10_method_1_code (3 : Nat) (Option.none : Option Jvm.ClassFile.FieldType)) ∈ wAll := wAll_in (tb_5 (List.mem_of_getElem? (i := 143) rfl)) rfl
theorem wm_5_144 : (Jvm.Cond.methodLink "GridmenderModel$Grid" (3 : Nat) ({ cls := "java/lang/Object", name := "<init>", desc := "()V" } : Jvm.MethodName)) ∈ wAll := wAll_in (tb_5 (List.mem_of_getElem? (i := 144) rfl)) rfl
theorem wm_5_145 : (Jvm.Cond.fieldLink "GridmenderModel$Grid" (9 : Nat) "GridmenderModel$Grid" "rows" "I") ∈ wAll := wAll_in (tb_5 (List.mem_of_getElem? (i := 145) rfl)) rfl
theorem wm_5_146 : (Jvm.Cond.fieldLink "GridmenderModel$Stepped" (23 : Nat) "GridmenderModel$Grid" "rows" "I") ∈ wAll := wAll_in (tb_5 (List.mem_of_getElem? (i := 146) rfl)) rfl
theorem wm_5_147 : (Jvm.Cond.fieldLink "GridmenderModel$Straight" (26 : Nat) "GridmenderModel$Grid" "rows" "I") ∈ wAll := wAll_in (tb_5 (List.mem_of_getElem? (i := 147) rfl)) rfl
theorem wm_5_148 : (Jvm.Cond.fieldLink "GridmenderModel" (46 : Nat) "GridmenderModel$Grid" "rows" "I") ∈ wAll := wAll_in (tb_5 (List.mem_of_getElem? (i := 148) rfl)) rfl
theorem wm_5_149 : (Jvm.Cond.fieldLink "GridmenderModel$Grid" (15 : Nat) "GridmenderModel$Grid" "columns" "I") ∈ wAll := wAll_in (tb_5 (List.mem_of_getElem? (i := 149) rfl)) rfl
theorem wm_5_150 : (Jvm.Cond.fieldLink "GridmenderModel$Straight" (36 : Nat) "GridmenderModel$Grid" "columns" "I") ∈ wAll := wAll_in (tb_5 (List.mem_of_getElem? (i := 150) rfl)) rfl
theorem wm_5_151 : (Jvm.Cond.fieldLink "GridmenderModel$Stepped" (33 : Nat) "GridmenderModel$Grid" "columns" "I") ∈ wAll := wAll_in (tb_5 (List.mem_of_getElem? (i := 151) rfl)) rfl
theorem wm_5_152 : (Jvm.Cond.fieldLink "GridmenderModel" (49 : Nat) "GridmenderModel$Grid" "columns" "I") ∈ wAll := wAll_in (tb_5 (List.mem_of_getElem? (i := 152) rfl)) rfl
theorem wm_5_153 : (Jvm.Cond.fieldLink "GridmenderModel$Grid" (18 : Nat) "GridmenderModel$Grid" "its" "[J") ∈ wAll := wAll_in (tb_5 (List.mem_of_getElem? (i := 153) rfl)) rfl
theorem wm_5_154 : (Jvm.Cond.fieldLink "GridmenderModel" (151 : Nat) "GridmenderModel$Grid" "its" "[J") ∈ wAll := wAll_in (tb_5 (List.mem_of_getElem? (i := 154) rfl)) rfl
theorem wm_5_161 : (Jvm.Cond.superclass "GridmenderModel$Grid" "java/lang/Object") ∈ wAll := wAll_in (tb_5 (List.mem_of_getElem? (i := 161) rfl)) rfl
theorem wm_5_162 : (Jvm.Cond.fieldLink "GridmenderModel" (21 : Nat) "GridmenderModel" "tables" "[LGridmenderModel$Grid;") ∈ wAll := wAll_in (tb_5 (List.mem_of_getElem? (i := 162) rfl)) rfl
theorem wm_5_163 : (Jvm.Cond.fieldLink "GridmenderModel" (36 : Nat) "GridmenderModel" "done" "I") ∈ wAll := wAll_in (tb_5 (List.mem_of_getElem? (i := 163) rfl)) rfl
theorem wm_5_164 : (Jvm.Cond.fieldLink "GridmenderModel" (39 : Nat) "GridmenderModel" "refused" "I") ∈ wAll := wAll_in (tb_5 (List.mem_of_getElem? (i := 164) rfl)) rfl
theorem wm_5_165 : (Jvm.Cond.fieldLink "GridmenderModel" (274 : Nat) "GridmenderModel" "knocks" "I") ∈ wAll := wAll_in (tb_5 (List.mem_of_getElem? (i := 165) rfl)) rfl
theorem wm_5_166 : (Jvm.Cond.fieldLink "GridmenderModel" (28 : Nat) "GridmenderModel" "thrown" "I") ∈ wAll := wAll_in (tb_5 (List.mem_of_getElem? (i := 166) rfl)) rfl
theorem wm_5_177 : (Jvm.Cond.superclass "GridmenderModel" "java/lang/Object") ∈ wAll := wAll_in (tb_5 (List.mem_of_getElem? (i := 177) rfl)) rfl
theorem wm_5_178 : (Jvm.Cond.methodLink "GridmenderLaw" (195 : Nat) ({ cls := "GridmenderModel", name := "thrown", desc := "()I" } : Jvm.MethodName)) ∈ wAll := wAll_in (tb_5 (List.mem_of_getElem? (i := 178) rfl)) rfl
theorem wm_5_179 : (Jvm.Cond.instanceMethod ({ cls := "GridmenderModel", name := "thrown", desc := "()I" } : Jvm.MethodName)) ∈ wAll := wAll_in (tb_5 (List.mem_of_getElem? (i := 179) rfl)) rfl
theorem wm_5_180 : (Jvm.Cond.selects "GridmenderModel" ({ cls := "GridmenderModel", name := "thrown", desc := "()I" } : Jvm.MethodName) ({ cls := "GridmenderModel", name := "thrown", desc := "()I" } : Jvm.MethodName)) ∈ wAll := wAll_in (tb_5 (List.mem_of_getElem? (i := 180) rfl)) rfl
theorem wm_5_181 : (Jvm.Cond.code ({ cls := "GridmenderModel", name := "thrown", desc := "()I" } : Jvm.MethodName) prog_9_method_3_code (1 : Nat) (Option.some Jvm.ClassFile.FieldType.int)) ∈ wAll := wAll_in (tb_5 (List.mem_of_getElem? (i := 181) rfl)) rfl
theorem wm_5_182 : (Jvm.Cond.methodLink "GridmenderLaw" (141 : Nat) ({ cls := "GridmenderModel", name := "make", desc := "(III)I" } : Jvm.MethodName)) ∈ wAll := wAll_in (tb_5 (List.mem_of_getElem? (i := 182) rfl)) rfl
theorem wm_5_183 : (Jvm.Cond.instanceMethod ({ cls := "GridmenderModel", name := "make", desc := "(III)I" } : Jvm.MethodName)) ∈ wAll := wAll_in (tb_5 (List.mem_of_getElem? (i := 183) rfl)) rfl
theorem wm_5_184 : (Jvm.Cond.selects "GridmenderModel" ({ cls := "GridmenderModel", name := "make", desc := "(III)I" } : Jvm.MethodName) ({ cls := "GridmenderModel", name := "make", desc := "(III)I" } : Jvm.MethodName)) ∈ wAll := wAll_in (tb_5 (List.mem_of_getElem? (i := 184) rfl)) rfl
theorem wm_5_185 : (Jvm.Cond.code ({ cls := "GridmenderModel", name := "make", desc := "(III)I" } : Jvm.MethodName) prog_9_method_16_code (4 : Nat) (Option.some Jvm.ClassFile.FieldType.int)) ∈ wAll := wAll_in (tb_5 (List.mem_of_getElem? (i := 185) rfl)) rfl
theorem wm_5_186 : (Jvm.Cond.methodLink "GridmenderModel" (42 : Nat) ({ cls := "GridmenderModel", name := "isTable", desc := "(I)Z" } : Jvm.MethodName)) ∈ wAll := wAll_in (tb_5 (List.mem_of_getElem? (i := 186) rfl)) rfl
theorem wm_5_187 : (Jvm.Cond.static ({ cls := "GridmenderModel", name := "isTable", desc := "(I)Z" } : Jvm.MethodName)) ∈ wAll := wAll_in (tb_5 (List.mem_of_getElem? (i := 187) rfl)) rfl
theorem wm_5_188 : (Jvm.Cond.code ({ cls := "GridmenderModel", name := "isTable", desc := "(I)Z" } : Jvm.MethodName) prog_9_method_9_code (1 : Nat) (Option.some Jvm.ClassFile.FieldType.boolean)) ∈ wAll := wAll_in (tb_5 (List.mem_of_getElem? (i := 188) rfl)) rfl
theorem wm_5_189 : (Jvm.Cond.methodLink "GridmenderModel" (74 : Nat) ({ cls := "GridmenderModel", name := "isShort", desc := "(I)Z" } : Jvm.MethodName)) ∈ wAll := wAll_in (tb_5 (List.mem_of_getElem? (i := 189) rfl)) rfl
theorem wm_5_190 : (Jvm.Cond.static ({ cls := "GridmenderModel", name := "isShort", desc := "(I)Z" } : Jvm.MethodName)) ∈ wAll := wAll_in (tb_5 (List.mem_of_getElem? (i := 190) rfl)) rfl
theorem wm_5_191 : (Jvm.Cond.code ({ cls := "GridmenderModel", name := "isShort", desc := "(I)Z" } : Jvm.MethodName) prog_9_method_13_code (1 : Nat) (Option.some Jvm.ClassFile.FieldType.boolean)) ∈ wAll := wAll_in (tb_5 (List.mem_of_getElem? (i := 191) rfl)) rfl
theorem wm_5_192 : (Jvm.Cond.methodLink "GridmenderModel" (77 : Nat) ({ cls := "GridmenderModel", name := "isThrown", desc := "(ZZ)Z" } : Jvm.MethodName)) ∈ wAll := wAll_in (tb_5 (List.mem_of_getElem? (i := 192) rfl)) rfl
theorem wn_5_193 : (Jvm.Cond.privateMethod ({ cls := "GridmenderModel", name := "isThrown", desc := "(ZZ)Z" } : Jvm.MethodName)) ∈ wNest := wNest_in (tb_5 (List.mem_of_getElem? (i := 193) rfl)) rfl
theorem wm_5_194 : (Jvm.Cond.instanceMethod ({ cls := "GridmenderModel", name := "isThrown", desc := "(ZZ)Z" } : Jvm.MethodName)) ∈ wAll := wAll_in (tb_5 (List.mem_of_getElem? (i := 194) rfl)) rfl
theorem wm_5_195 : (Jvm.Cond.code ({ cls := "GridmenderModel", name := "isThrown", desc := "(ZZ)Z" } : Jvm.MethodName) prog_9_method_5_code (3 : Nat) (Option.some Jvm.ClassFile.FieldType.boolean)) ∈ wAll := wAll_in (tb_5 (List.mem_of_getElem? (i := 195) rfl)) rfl
theorem wm_5_196 : (Jvm.Cond.methodLink "GridmenderModel" (32 : Nat) ({ cls := "GridmenderModel", name := "isThrown", desc := "(ZZZ)Z" } : Jvm.MethodName)) ∈ wAll := wAll_in (tb_5 (List.mem_of_getElem? (i := 196) rfl)) rfl
theorem wn_5_197 : (Jvm.Cond.privateMethod ({ cls := "GridmenderModel", name := "isThrown", desc := "(ZZZ)Z" } : Jvm.MethodName)) ∈ wNest := wNest_in (tb_5 (List.mem_of_getElem? (i := 197) rfl)) rfl
theorem wm_5_198 : (Jvm.Cond.instanceMethod ({ cls := "GridmenderModel", name := "isThrown", desc := "(ZZZ)Z" } : Jvm.MethodName)) ∈ wAll := wAll_in (tb_5 (List.mem_of_getElem? (i := 198) rfl)) rfl
theorem wm_5_199 : (Jvm.Cond.code ({ cls := "GridmenderModel", name := "isThrown", desc := "(ZZZ)Z" } : Jvm.MethodName) prog_9_method_4_code (4 : Nat) (Option.some Jvm.ClassFile.FieldType.boolean)) ∈ wAll := wAll_in (tb_5 (List.mem_of_getElem? (i := 199) rfl)) rfl
theorem wm_5_200 : (Jvm.Cond.methodLink "GridmenderModel" (80 : Nat) ({ cls := "GridmenderModel", name := "lay", desc := "(ILGridmenderModel$Grid;)I" } : Jvm.MethodName)) ∈ wAll := wAll_in (tb_5 (List.mem_of_getElem? (i := 200) rfl)) rfl
theorem wn_5_201 : (Jvm.Cond.privateMethod ({ cls := "GridmenderModel", name := "lay", desc := "(ILGridmenderModel$Grid;)I" } : Jvm.MethodName)) ∈ wNest := wNest_in (tb_5 (List.mem_of_getElem? (i := 201) rfl)) rfl
theorem wm_5_202 : (Jvm.Cond.instanceMethod ({ cls := "GridmenderModel", name := "lay", desc := "(ILGridmenderModel$Grid;)I" } : Jvm.MethodName)) ∈ wAll := wAll_in (tb_5 (List.mem_of_getElem? (i := 202) rfl)) rfl
theorem wm_5_203 : (Jvm.Cond.code ({ cls := "GridmenderModel", name := "lay", desc := "(ILGridmenderModel$Grid;)I" } : Jvm.MethodName) prog_9_method_15_code (4 : Nat) (Option.some Jvm.ClassFile.FieldType.int)) ∈ wAll := wAll_in (tb_5 (List.mem_of_getElem? (i := 203) rfl)) rfl
theorem wm_5_204 : (Jvm.Cond.methodLink "GridmenderModel" (67 : Nat) ({ cls := "GridmenderModel$Grid", name := "others", desc := "()I" } : Jvm.MethodName)) ∈ wAll := wAll_in (tb_5 (List.mem_of_getElem? (i := 204) rfl)) rfl
theorem wm_5_205 : (Jvm.Cond.instanceMethod ({ cls := "GridmenderModel$Grid", name := "others", desc := "()I" } : Jvm.MethodName)) ∈ wAll := wAll_in (tb_5 (List.mem_of_getElem? (i := 205) rfl)) rfl
theorem wm_5_206 : (Jvm.Cond.selects "GridmenderModel$Grid" ({ cls := "GridmenderModel$Grid", name := "others", desc := "()I" } : Jvm.MethodName) ({ cls := "GridmenderModel$Grid", name := "others", desc := "()I" } : Jvm.MethodName)) ∈ wAll := wAll_in (tb_5 (List.mem_of_getElem? (i := 206) rfl)) rfl
theorem wm_5_207 : (Jvm.Cond.code ({ cls := "GridmenderModel$Grid", name := "others", desc := "()I" } : Jvm.MethodName) prog_10_method_13_code (7 : Nat) (Option.some Jvm.ClassFile.FieldType.int)) ∈ wAll := wAll_in (tb_5 (List.mem_of_getElem? (i := 207) rfl)) rfl
theorem wm_5_208 : (Jvm.Cond.methodLink "GridmenderModel" (70 : Nat) ({ cls := "GridmenderModel", name := "told", desc := "(I)I" } : Jvm.MethodName)) ∈ wAll := wAll_in (tb_5 (List.mem_of_getElem? (i := 208) rfl)) rfl
theorem wn_5_209 : (Jvm.Cond.privateMethod ({ cls := "GridmenderModel", name := "told", desc := "(I)I" } : Jvm.MethodName)) ∈ wNest := wNest_in (tb_5 (List.mem_of_getElem? (i := 209) rfl)) rfl
theorem wm_5_210 : (Jvm.Cond.instanceMethod ({ cls := "GridmenderModel", name := "told", desc := "(I)I" } : Jvm.MethodName)) ∈ wAll := wAll_in (tb_5 (List.mem_of_getElem? (i := 210) rfl)) rfl
theorem wm_5_211 : (Jvm.Cond.code ({ cls := "GridmenderModel", name := "told", desc := "(I)I" } : Jvm.MethodName) prog_9_method_7_code (2 : Nat) (Option.some Jvm.ClassFile.FieldType.int)) ∈ wAll := wAll_in (tb_5 (List.mem_of_getElem? (i := 211) rfl)) rfl
theorem wm_5_212 : (Jvm.Cond.methodLink "GridmenderLaw" (145 : Nat) ({ cls := "GridmenderModel", name := "unit", desc := "(II)I" } : Jvm.MethodName)) ∈ wAll := wAll_in (tb_5 (List.mem_of_getElem? (i := 212) rfl)) rfl
theorem wm_5_213 : (Jvm.Cond.instanceMethod ({ cls := "GridmenderModel", name := "unit", desc := "(II)I" } : Jvm.MethodName)) ∈ wAll := wAll_in (tb_5 (List.mem_of_getElem? (i := 213) rfl)) rfl
theorem wm_5_214 : (Jvm.Cond.selects "GridmenderModel" ({ cls := "GridmenderModel", name := "unit", desc := "(II)I" } : Jvm.MethodName) ({ cls := "GridmenderModel", name := "unit", desc := "(II)I" } : Jvm.MethodName)) ∈ wAll := wAll_in (tb_5 (List.mem_of_getElem? (i := 214) rfl)) rfl
theorem wm_5_215 : (Jvm.Cond.code ({ cls := "GridmenderModel", name := "unit", desc := "(II)I" } : Jvm.MethodName) prog_9_method_17_code (3 : Nat) (Option.some Jvm.ClassFile.FieldType.int)) ∈ wAll := wAll_in (tb_5 (List.mem_of_getElem? (i := 215) rfl)) rfl
theorem wm_5_216 : (Jvm.Cond.methodLink "GridmenderModel" (84 : Nat) ({ cls := "GridmenderModel$Grid", name := "unit", desc := "(I)LGridmenderModel$Grid;" } : Jvm.MethodName)) ∈ wAll := wAll_in (tb_5 (List.mem_of_getElem? (i := 216) rfl)) rfl
theorem wm_5_217 : (Jvm.Cond.static ({ cls := "GridmenderModel$Grid", name := "unit", desc := "(I)LGridmenderModel$Grid;" } : Jvm.MethodName)) ∈ wAll := wAll_in (tb_5 (List.mem_of_getElem? (i := 217) rfl)) rfl
theorem wm_5_218 : (Jvm.Cond.code ({ cls := "GridmenderModel$Grid", name := "unit", desc := "(I)LGridmenderModel$Grid;" } : Jvm.MethodName) prog_10_method_5_code (3 : Nat) (Option.some (Jvm.ClassFile.FieldType.object "GridmenderModel$Grid"))) ∈ wAll := wAll_in (tb_5 (List.mem_of_getElem? (i := 218) rfl)) rfl
theorem wm_5_219 : (Jvm.Cond.classLink "GridmenderModel$Grid" (10 : Nat) "GridmenderModel$Grid") ∈ wAll := wAll_in (tb_5 (List.mem_of_getElem? (i := 219) rfl)) rfl
theorem wm_5_220 : (Jvm.Cond.methodLink "GridmenderModel$Grid" (22 : Nat) ({ cls := "GridmenderModel$Grid", name := "<init>", desc := "(II)V" } : Jvm.MethodName)) ∈ wAll := wAll_in (tb_5 (List.mem_of_getElem? (i := 220) rfl)) rfl
theorem wm_5_221 : (Jvm.Cond.methodLink "GridmenderModel$Grid" (25 : Nat) ({ cls := "GridmenderModel$Grid", name := "put", desc := "(IIJ)V" } : Jvm.MethodName)) ∈ wAll := wAll_in (tb_5 (List.mem_of_getElem? (i := 221) rfl)) rfl
theorem wm_5_222 : (Jvm.Cond.instanceMethod ({ cls := "GridmenderModel$Grid", name := "put", desc := "(IIJ)V" } : Jvm.MethodName)) ∈ wAll := wAll_in (tb_5 (List.mem_of_getElem? (i := 222) rfl)) rfl
theorem wm_5_223 : (Jvm.Cond.selects "GridmenderModel$Grid" ({ cls := "GridmenderModel$Grid", name := "put", desc := "(IIJ)V" } : Jvm.MethodName) ({ cls := "GridmenderModel$Grid", name := "put", desc := "(IIJ)V" } : Jvm.MethodName)) ∈ wAll := wAll_in (tb_5 (List.mem_of_getElem? (i := 223) rfl)) rfl
theorem wm_5_224 : (Jvm.Cond.code ({ cls := "GridmenderModel$Grid", name := "put", desc := "(IIJ)V" } : Jvm.MethodName) prog_10_method_3_code (5 : Nat) (Option.none : Option Jvm.ClassFile.FieldType)) ∈ wAll := wAll_in (tb_5 (List.mem_of_getElem? (i := 224) rfl)) rfl
theorem wm_5_225 : (Jvm.Cond.methodLink "GridmenderLaw" (149 : Nat) ({ cls := "GridmenderModel", name := "put", desc := "(IIII)I" } : Jvm.MethodName)) ∈ wAll := wAll_in (tb_5 (List.mem_of_getElem? (i := 225) rfl)) rfl
theorem wm_5_226 : (Jvm.Cond.instanceMethod ({ cls := "GridmenderModel", name := "put", desc := "(IIII)I" } : Jvm.MethodName)) ∈ wAll := wAll_in (tb_5 (List.mem_of_getElem? (i := 226) rfl)) rfl
theorem wm_5_227 : (Jvm.Cond.selects "GridmenderModel" ({ cls := "GridmenderModel", name := "put", desc := "(IIII)I" } : Jvm.MethodName) ({ cls := "GridmenderModel", name := "put", desc := "(IIII)I" } : Jvm.MethodName)) ∈ wAll := wAll_in (tb_5 (List.mem_of_getElem? (i := 227) rfl)) rfl
theorem wm_5_228 : (Jvm.Cond.code ({ cls := "GridmenderModel", name := "put", desc := "(IIII)I" } : Jvm.MethodName) prog_9_method_18_code (6 : Nat) (Option.some Jvm.ClassFile.FieldType.int)) ∈ wAll := wAll_in (tb_5 (List.mem_of_getElem? (i := 228) rfl)) rfl
theorem wm_5_229 : (Jvm.Cond.methodLink "GridmenderModel" (56 : Nat) ({ cls := "GridmenderModel", name := "isRow", desc := "(II)Z" } : Jvm.MethodName)) ∈ wAll := wAll_in (tb_5 (List.mem_of_getElem? (i := 229) rfl)) rfl
theorem wn_5_230 : (Jvm.Cond.privateMethod ({ cls := "GridmenderModel", name := "isRow", desc := "(II)Z" } : Jvm.MethodName)) ∈ wNest := wNest_in (tb_5 (List.mem_of_getElem? (i := 230) rfl)) rfl
theorem wm_5_231 : (Jvm.Cond.instanceMethod ({ cls := "GridmenderModel", name := "isRow", desc := "(II)Z" } : Jvm.MethodName)) ∈ wAll := wAll_in (tb_5 (List.mem_of_getElem? (i := 231) rfl)) rfl
theorem wm_5_232 : (Jvm.Cond.code ({ cls := "GridmenderModel", name := "isRow", desc := "(II)Z" } : Jvm.MethodName) prog_9_method_10_code (3 : Nat) (Option.some Jvm.ClassFile.FieldType.boolean)) ∈ wAll := wAll_in (tb_5 (List.mem_of_getElem? (i := 232) rfl)) rfl
theorem wm_5_233 : (Jvm.Cond.methodLink "GridmenderModel" (52 : Nat) ({ cls := "GridmenderModel", name := "isColumn", desc := "(II)Z" } : Jvm.MethodName)) ∈ wAll := wAll_in (tb_5 (List.mem_of_getElem? (i := 233) rfl)) rfl
theorem wn_5_234 : (Jvm.Cond.privateMethod ({ cls := "GridmenderModel", name := "isColumn", desc := "(II)Z" } : Jvm.MethodName)) ∈ wNest := wNest_in (tb_5 (List.mem_of_getElem? (i := 234) rfl)) rfl
theorem wm_5_235 : (Jvm.Cond.instanceMethod ({ cls := "GridmenderModel", name := "isColumn", desc := "(II)Z" } : Jvm.MethodName)) ∈ wAll := wAll_in (tb_5 (List.mem_of_getElem? (i := 235) rfl)) rfl
theorem wm_5_236 : (Jvm.Cond.code ({ cls := "GridmenderModel", name := "isColumn", desc := "(II)Z" } : Jvm.MethodName) prog_9_method_11_code (3 : Nat) (Option.some Jvm.ClassFile.FieldType.boolean)) ∈ wAll := wAll_in (tb_5 (List.mem_of_getElem? (i := 236) rfl)) rfl
theorem wm_5_237 : (Jvm.Cond.methodLink "GridmenderModel" (88 : Nat) ({ cls := "GridmenderModel$Grid", name := "at", desc := "(II)J" } : Jvm.MethodName)) ∈ wAll := wAll_in (tb_5 (List.mem_of_getElem? (i := 237) rfl)) rfl
theorem wm_5_238 : (Jvm.Cond.instanceMethod ({ cls := "GridmenderModel$Grid", name := "at", desc := "(II)J" } : Jvm.MethodName)) ∈ wAll := wAll_in (tb_5 (List.mem_of_getElem? (i := 238) rfl)) rfl
theorem wm_5_239 : (Jvm.Cond.selects "GridmenderModel$Grid" ({ cls := "GridmenderModel$Grid", name := "at", desc := "(II)J" } : Jvm.MethodName) ({ cls := "GridmenderModel$Grid", name := "at", desc := "(II)J" } : Jvm.MethodName)) ∈ wAll := wAll_in (tb_5 (List.mem_of_getElem? (i := 239) rfl)) rfl
theorem wm_6_0 : (Jvm.Cond.code ({ cls := "GridmenderModel$Grid", name := "at", desc := "(II)J" } : Jvm.MethodName) prog_10_method_2_code (3 : Nat) (Option.some Jvm.ClassFile.FieldType.long)) ∈ wAll := wAll_in (tb_6 (List.mem_of_getElem? (i := 0) rfl)) rfl
theorem wm_6_1 : (Jvm.Cond.methodLink "GridmenderModel" (92 : Nat) ({ cls := "GridmenderModel$Grid", name := "put", desc := "(IIJ)V" } : Jvm.MethodName)) ∈ wAll := wAll_in (tb_6 (List.mem_of_getElem? (i := 1) rfl)) rfl
theorem wm_6_2 : (Jvm.Cond.methodLink "GridmenderLaw" (152 : Nat) ({ cls := "GridmenderModel", name := "sow", desc := "(III)I" } : Jvm.MethodName)) ∈ wAll := wAll_in (tb_6 (List.mem_of_getElem? (i := 2) rfl)) rfl
theorem wm_6_3 : (Jvm.Cond.instanceMethod ({ cls := "GridmenderModel", name := "sow", desc := "(III)I" } : Jvm.MethodName)) ∈ wAll := wAll_in (tb_6 (List.mem_of_getElem? (i := 3) rfl)) rfl
theorem wm_6_4 : (Jvm.Cond.selects "GridmenderModel" ({ cls := "GridmenderModel", name := "sow", desc := "(III)I" } : Jvm.MethodName) ({ cls := "GridmenderModel", name := "sow", desc := "(III)I" } : Jvm.MethodName)) ∈ wAll := wAll_in (tb_6 (List.mem_of_getElem? (i := 4) rfl)) rfl
theorem wm_6_5 : (Jvm.Cond.code ({ cls := "GridmenderModel", name := "sow", desc := "(III)I" } : Jvm.MethodName) prog_9_method_19_code (9 : Nat) (Option.some Jvm.ClassFile.FieldType.int)) ∈ wAll := wAll_in (tb_6 (List.mem_of_getElem? (i := 5) rfl)) rfl
theorem wm_6_6 : (Jvm.Cond.constant "GridmenderModel" (96 : Nat) (65535 : Int32)) ∈ wAll := wAll_in (tb_6 (List.mem_of_getElem? (i := 6) rfl)) rfl
theorem wm_6_7 : (Jvm.Cond.constantLong "GridmenderModel" (97 : Nat) (25173 : Int64)) ∈ wAll := wAll_in (tb_6 (List.mem_of_getElem? (i := 7) rfl)) rfl
theorem wm_6_8 : (Jvm.Cond.constantLong "GridmenderModel" (99 : Nat) (13849 : Int64)) ∈ wAll := wAll_in (tb_6 (List.mem_of_getElem? (i := 8) rfl)) rfl
theorem wm_6_9 : (Jvm.Cond.constantLong "GridmenderModel" (101 : Nat) (65536 : Int64)) ∈ wAll := wAll_in (tb_6 (List.mem_of_getElem? (i := 9) rfl)) rfl
theorem wm_6_10 : (Jvm.Cond.constantLong "GridmenderModel" (103 : Nat) (64 : Int64)) ∈ wAll := wAll_in (tb_6 (List.mem_of_getElem? (i := 10) rfl)) rfl
theorem wm_6_11 : (Jvm.Cond.methodLink "GridmenderLaw" (155 : Nat) ({ cls := "GridmenderModel", name := "copy", desc := "(II)I" } : Jvm.MethodName)) ∈ wAll := wAll_in (tb_6 (List.mem_of_getElem? (i := 11) rfl)) rfl
theorem wm_6_12 : (Jvm.Cond.instanceMethod ({ cls := "GridmenderModel", name := "copy", desc := "(II)I" } : Jvm.MethodName)) ∈ wAll := wAll_in (tb_6 (List.mem_of_getElem? (i := 12) rfl)) rfl
theorem wm_6_13 : (Jvm.Cond.selects "GridmenderModel" ({ cls := "GridmenderModel", name := "copy", desc := "(II)I" } : Jvm.MethodName) ({ cls := "GridmenderModel", name := "copy", desc := "(II)I" } : Jvm.MethodName)) ∈ wAll := wAll_in (tb_6 (List.mem_of_getElem? (i := 13) rfl)) rfl
theorem wm_6_14 : (Jvm.Cond.code ({ cls := "GridmenderModel", name := "copy", desc := "(II)I" } : Jvm.MethodName) prog_9_method_20_code (4 : Nat) (Option.some Jvm.ClassFile.FieldType.int)) ∈ wAll := wAll_in (tb_6 (List.mem_of_getElem? (i := 14) rfl)) rfl
theorem wm_6_15 : (Jvm.Cond.methodLink "GridmenderModel" (105 : Nat) ({ cls := "GridmenderModel", name := "isThrown", desc := "(Z)Z" } : Jvm.MethodName)) ∈ wAll := wAll_in (tb_6 (List.mem_of_getElem? (i := 15) rfl)) rfl
theorem wn_6_16 : (Jvm.Cond.privateMethod ({ cls := "GridmenderModel", name := "isThrown", desc := "(Z)Z" } : Jvm.MethodName)) ∈ wNest := wNest_in (tb_6 (List.mem_of_getElem? (i := 16) rfl)) rfl
theorem wm_6_17 : (Jvm.Cond.instanceMethod ({ cls := "GridmenderModel", name := "isThrown", desc := "(Z)Z" } : Jvm.MethodName)) ∈ wAll := wAll_in (tb_6 (List.mem_of_getElem? (i := 17) rfl)) rfl
theorem wm_6_18 : (Jvm.Cond.code ({ cls := "GridmenderModel", name := "isThrown", desc := "(Z)Z" } : Jvm.MethodName) prog_9_method_6_code (2 : Nat) (Option.some Jvm.ClassFile.FieldType.boolean)) ∈ wAll := wAll_in (tb_6 (List.mem_of_getElem? (i := 18) rfl)) rfl
theorem wm_6_19 : (Jvm.Cond.methodLink "GridmenderModel" (108 : Nat) ({ cls := "GridmenderModel$Grid", name := "isSame", desc := "(LGridmenderModel$Grid;)Z" } : Jvm.MethodName)) ∈ wAll := wAll_in (tb_6 (List.mem_of_getElem? (i := 19) rfl)) rfl
theorem wm_6_20 : (Jvm.Cond.instanceMethod ({ cls := "GridmenderModel$Grid", name := "isSame", desc := "(LGridmenderModel$Grid;)Z" } : Jvm.MethodName)) ∈ wAll := wAll_in (tb_6 (List.mem_of_getElem? (i := 20) rfl)) rfl
theorem wm_6_21 : (Jvm.Cond.selects "GridmenderModel$Grid" ({ cls := "GridmenderModel$Grid", name := "isSame", desc := "(LGridmenderModel$Grid;)Z" } : Jvm.MethodName) ({ cls := "GridmenderModel$Grid", name := "isSame", desc := "(LGridmenderModel$Grid;)Z" } : Jvm.MethodName)) ∈ wAll := wAll_in (tb_6 (List.mem_of_getElem? (i := 21) rfl)) rfl
theorem wm_6_22 : (Jvm.Cond.code ({ cls := "GridmenderModel$Grid", name := "isSame", desc := "(LGridmenderModel$Grid;)Z" } : Jvm.MethodName) prog_10_method_14_code (3 : Nat) (Option.some Jvm.ClassFile.FieldType.boolean)) ∈ wAll := wAll_in (tb_6 (List.mem_of_getElem? (i := 22) rfl)) rfl
theorem wm_6_23 : (Jvm.Cond.methodLink "GridmenderModel" (112 : Nat) ({ cls := "GridmenderModel$Grid", name := "copy", desc := "()LGridmenderModel$Grid;" } : Jvm.MethodName)) ∈ wAll := wAll_in (tb_6 (List.mem_of_getElem? (i := 23) rfl)) rfl
theorem wm_6_24 : (Jvm.Cond.instanceMethod ({ cls := "GridmenderModel$Grid", name := "copy", desc := "()LGridmenderModel$Grid;" } : Jvm.MethodName)) ∈ wAll := wAll_in (tb_6 (List.mem_of_getElem? (i := 24) rfl)) rfl
theorem wm_6_25 : (Jvm.Cond.selects "GridmenderModel$Grid" ({ cls := "GridmenderModel$Grid", name := "copy", desc := "()LGridmenderModel$Grid;" } : Jvm.MethodName) ({ cls := "GridmenderModel$Grid", name := "copy", desc := "()LGridmenderModel$Grid;" } : Jvm.MethodName)) ∈ wAll := wAll_in (tb_6 (List.mem_of_getElem? (i := 25) rfl)) rfl
theorem wm_6_26 : (Jvm.Cond.code ({ cls := "GridmenderModel$Grid", name := "copy", desc := "()LGridmenderModel$Grid;" } : Jvm.MethodName) prog_10_method_4_code (3 : Nat) (Option.some (Jvm.ClassFile.FieldType.object "GridmenderModel$Grid"))) ∈ wAll := wAll_in (tb_6 (List.mem_of_getElem? (i := 26) rfl)) rfl
theorem wm_6_27 : (Jvm.Cond.methodLink "GridmenderLaw" (158 : Nat) ({ cls := "GridmenderModel", name := "swap", desc := "(II)I" } : Jvm.MethodName)) ∈ wAll := wAll_in (tb_6 (List.mem_of_getElem? (i := 27) rfl)) rfl
theorem wm_6_28 : (Jvm.Cond.instanceMethod ({ cls := "GridmenderModel", name := "swap", desc := "(II)I" } : Jvm.MethodName)) ∈ wAll := wAll_in (tb_6 (List.mem_of_getElem? (i := 28) rfl)) rfl
theorem wm_6_29 : (Jvm.Cond.selects "GridmenderModel" ({ cls := "GridmenderModel", name := "swap", desc := "(II)I" } : Jvm.MethodName) ({ cls := "GridmenderModel", name := "swap", desc := "(II)I" } : Jvm.MethodName)) ∈ wAll := wAll_in (tb_6 (List.mem_of_getElem? (i := 29) rfl)) rfl
theorem wm_6_30 : (Jvm.Cond.code ({ cls := "GridmenderModel", name := "swap", desc := "(II)I" } : Jvm.MethodName) prog_9_method_21_code (5 : Nat) (Option.some Jvm.ClassFile.FieldType.int)) ∈ wAll := wAll_in (tb_6 (List.mem_of_getElem? (i := 30) rfl)) rfl
theorem wm_6_31 : (Jvm.Cond.methodLink "GridmenderLaw" (162 : Nat) ({ cls := "GridmenderModel", name := "flip", desc := "(I)I" } : Jvm.MethodName)) ∈ wAll := wAll_in (tb_6 (List.mem_of_getElem? (i := 31) rfl)) rfl
theorem wm_6_32 : (Jvm.Cond.instanceMethod ({ cls := "GridmenderModel", name := "flip", desc := "(I)I" } : Jvm.MethodName)) ∈ wAll := wAll_in (tb_6 (List.mem_of_getElem? (i := 32) rfl)) rfl
theorem wm_6_33 : (Jvm.Cond.selects "GridmenderModel" ({ cls := "GridmenderModel", name := "flip", desc := "(I)I" } : Jvm.MethodName) ({ cls := "GridmenderModel", name := "flip", desc := "(I)I" } : Jvm.MethodName)) ∈ wAll := wAll_in (tb_6 (List.mem_of_getElem? (i := 33) rfl)) rfl
theorem wm_6_34 : (Jvm.Cond.code ({ cls := "GridmenderModel", name := "flip", desc := "(I)I" } : Jvm.MethodName) prog_9_method_23_code (2 : Nat) (Option.some Jvm.ClassFile.FieldType.int)) ∈ wAll := wAll_in (tb_6 (List.mem_of_getElem? (i := 34) rfl)) rfl
theorem wm_6_35 : (Jvm.Cond.methodLink "GridmenderModel" (116 : Nat) ({ cls := "GridmenderModel", name := "flipped", desc := "(LGridmenderModel$Grid;)LGridmenderModel$Grid;" } : Jvm.MethodName)) ∈ wAll := wAll_in (tb_6 (List.mem_of_getElem? (i := 35) rfl)) rfl
theorem wm_6_36 : (Jvm.Cond.static ({ cls := "GridmenderModel", name := "flipped", desc := "(LGridmenderModel$Grid;)LGridmenderModel$Grid;" } : Jvm.MethodName)) ∈ wAll := wAll_in (tb_6 (List.mem_of_getElem? (i := 36) rfl)) rfl
theorem wm_6_37 : (Jvm.Cond.code ({ cls := "GridmenderModel", name := "flipped", desc := "(LGridmenderModel$Grid;)LGridmenderModel$Grid;" } : Jvm.MethodName) prog_9_method_22_code (4 : Nat) (Option.some (Jvm.ClassFile.FieldType.object "GridmenderModel$Grid"))) ∈ wAll := wAll_in (tb_6 (List.mem_of_getElem? (i := 37) rfl)) rfl
theorem wm_6_38 : (Jvm.Cond.methodLink "GridmenderLaw" (166 : Nat) ({ cls := "GridmenderModel", name := "exchange", desc := "(IZII)I" } : Jvm.MethodName)) ∈ wAll := wAll_in (tb_6 (List.mem_of_getElem? (i := 38) rfl)) rfl
theorem wm_6_39 : (Jvm.Cond.instanceMethod ({ cls := "GridmenderModel", name := "exchange", desc := "(IZII)I" } : Jvm.MethodName)) ∈ wAll := wAll_in (tb_6 (List.mem_of_getElem? (i := 39) rfl)) rfl
theorem wm_6_40 : (Jvm.Cond.selects "GridmenderModel" ({ cls := "GridmenderModel", name := "exchange", desc := "(IZII)I" } : Jvm.MethodName) ({ cls := "GridmenderModel", name := "exchange", desc := "(IZII)I" } : Jvm.MethodName)) ∈ wAll := wAll_in (tb_6 (List.mem_of_getElem? (i := 40) rfl)) rfl
theorem wm_6_41 : (Jvm.Cond.code ({ cls := "GridmenderModel", name := "exchange", desc := "(IZII)I" } : Jvm.MethodName) prog_9_method_25_code (6 : Nat) (Option.some Jvm.ClassFile.FieldType.int)) ∈ wAll := wAll_in (tb_6 (List.mem_of_getElem? (i := 41) rfl)) rfl
theorem wm_6_42 : (Jvm.Cond.methodLink "GridmenderModel" (124 : Nat) ({ cls := "GridmenderModel", name := "isLine", desc := "(IZI)Z" } : Jvm.MethodName)) ∈ wAll := wAll_in (tb_6 (List.mem_of_getElem? (i := 42) rfl)) rfl
theorem wn_6_43 : (Jvm.Cond.privateMethod ({ cls := "GridmenderModel", name := "isLine", desc := "(IZI)Z" } : Jvm.MethodName)) ∈ wNest := wNest_in (tb_6 (List.mem_of_getElem? (i := 43) rfl)) rfl
theorem wm_6_44 : (Jvm.Cond.instanceMethod ({ cls := "GridmenderModel", name := "isLine", desc := "(IZI)Z" } : Jvm.MethodName)) ∈ wAll := wAll_in (tb_6 (List.mem_of_getElem? (i := 44) rfl)) rfl
theorem wm_6_45 : (Jvm.Cond.code ({ cls := "GridmenderModel", name := "isLine", desc := "(IZI)Z" } : Jvm.MethodName) prog_9_method_12_code (4 : Nat) (Option.some Jvm.ClassFile.FieldType.boolean)) ∈ wAll := wAll_in (tb_6 (List.mem_of_getElem? (i := 45) rfl)) rfl
theorem wm_6_46 : (Jvm.Cond.methodLink "GridmenderModel" (128 : Nat) ({ cls := "GridmenderModel$Grid", name := "exchangeColumns", desc := "(II)V" } : Jvm.MethodName)) ∈ wAll := wAll_in (tb_6 (List.mem_of_getElem? (i := 46) rfl)) rfl
theorem wm_6_47 : (Jvm.Cond.instanceMethod ({ cls := "GridmenderModel$Grid", name := "exchangeColumns", desc := "(II)V" } : Jvm.MethodName)) ∈ wAll := wAll_in (tb_6 (List.mem_of_getElem? (i := 47) rfl)) rfl
theorem wm_6_48 : (Jvm.Cond.selects "GridmenderModel$Grid" ({ cls := "GridmenderModel$Grid", name := "exchangeColumns", desc := "(II)V" } : Jvm.MethodName) ({ cls := "GridmenderModel$Grid", name := "exchangeColumns", desc := "(II)V" } : Jvm.MethodName)) ∈ wAll := wAll_in (tb_6 (List.mem_of_getElem? (i := 48) rfl)) rfl
theorem wm_6_49 : (Jvm.Cond.code ({ cls := "GridmenderModel$Grid", name := "exchangeColumns", desc := "(II)V" } : Jvm.MethodName) prog_10_method_7_code (6 : Nat) (Option.none : Option Jvm.ClassFile.FieldType)) ∈ wAll := wAll_in (tb_6 (List.mem_of_getElem? (i := 49) rfl)) rfl
theorem wm_6_50 : (Jvm.Cond.methodLink "GridmenderModel$Grid" (29 : Nat) ({ cls := "GridmenderModel$Grid", name := "at", desc := "(II)J" } : Jvm.MethodName)) ∈ wAll := wAll_in (tb_6 (List.mem_of_getElem? (i := 50) rfl)) rfl
theorem wm_6_51 : (Jvm.Cond.methodLink "GridmenderModel" (131 : Nat) ({ cls := "GridmenderModel$Grid", name := "exchangeRows", desc := "(II)V" } : Jvm.MethodName)) ∈ wAll := wAll_in (tb_6 (List.mem_of_getElem? (i := 51) rfl)) rfl
theorem wm_6_52 : (Jvm.Cond.instanceMethod ({ cls := "GridmenderModel$Grid", name := "exchangeRows", desc := "(II)V" } : Jvm.MethodName)) ∈ wAll := wAll_in (tb_6 (List.mem_of_getElem? (i := 52) rfl)) rfl
theorem wm_6_53 : (Jvm.Cond.selects "GridmenderModel$Grid" ({ cls := "GridmenderModel$Grid", name := "exchangeRows", desc := "(II)V" } : Jvm.MethodName) ({ cls := "GridmenderModel$Grid", name := "exchangeRows", desc := "(II)V" } : Jvm.MethodName)) ∈ wAll := wAll_in (tb_6 (List.mem_of_getElem? (i := 53) rfl)) rfl
theorem wm_6_54 : (Jvm.Cond.code ({ cls := "GridmenderModel$Grid", name := "exchangeRows", desc := "(II)V" } : Jvm.MethodName) prog_10_method_6_code (6 : Nat) (Option.none : Option Jvm.ClassFile.FieldType)) ∈ wAll := wAll_in (tb_6 (List.mem_of_getElem? (i := 54) rfl)) rfl
theorem wm_6_55 : (Jvm.Cond.methodLink "GridmenderModel" (134 : Nat) ({ cls := "GridmenderModel", name := "changed", desc := "(ILGridmenderModel$Grid;)I" } : Jvm.MethodName)) ∈ wAll := wAll_in (tb_6 (List.mem_of_getElem? (i := 55) rfl)) rfl
theorem wn_6_56 : (Jvm.Cond.privateMethod ({ cls := "GridmenderModel", name := "changed", desc := "(ILGridmenderModel$Grid;)I" } : Jvm.MethodName)) ∈ wNest := wNest_in (tb_6 (List.mem_of_getElem? (i := 56) rfl)) rfl
theorem wm_6_57 : (Jvm.Cond.instanceMethod ({ cls := "GridmenderModel", name := "changed", desc := "(ILGridmenderModel$Grid;)I" } : Jvm.MethodName)) ∈ wAll := wAll_in (tb_6 (List.mem_of_getElem? (i := 57) rfl)) rfl
theorem wm_6_58 : (Jvm.Cond.code ({ cls := "GridmenderModel", name := "changed", desc := "(ILGridmenderModel$Grid;)I" } : Jvm.MethodName) prog_9_method_24_code (4 : Nat) (Option.some Jvm.ClassFile.FieldType.int)) ∈ wAll := wAll_in (tb_6 (List.mem_of_getElem? (i := 58) rfl)) rfl
theorem wm_6_59 : (Jvm.Cond.methodLink "GridmenderModel" (120 : Nat) ({ cls := "GridmenderModel$Grid", name := "unlike", desc := "(LGridmenderModel$Grid;)I" } : Jvm.MethodName)) ∈ wAll := wAll_in (tb_6 (List.mem_of_getElem? (i := 59) rfl)) rfl
theorem wm_6_60 : (Jvm.Cond.instanceMethod ({ cls := "GridmenderModel$Grid", name := "unlike", desc := "(LGridmenderModel$Grid;)I" } : Jvm.MethodName)) ∈ wAll := wAll_in (tb_6 (List.mem_of_getElem? (i := 60) rfl)) rfl
theorem wm_6_61 : (Jvm.Cond.selects "GridmenderModel$Grid" ({ cls := "GridmenderModel$Grid", name := "unlike", desc := "(LGridmenderModel$Grid;)I" } : Jvm.MethodName) ({ cls := "GridmenderModel$Grid", name := "unlike", desc := "(LGridmenderModel$Grid;)I" } : Jvm.MethodName)) ∈ wAll := wAll_in (tb_6 (List.mem_of_getElem? (i := 61) rfl)) rfl
theorem wm_6_62 : (Jvm.Cond.code ({ cls := "GridmenderModel$Grid", name := "unlike", desc := "(LGridmenderModel$Grid;)I" } : Jvm.MethodName) prog_10_method_15_code (4 : Nat) (Option.some Jvm.ClassFile.FieldType.int)) ∈ wAll := wAll_in (tb_6 (List.mem_of_getElem? (i := 62) rfl)) rfl
theorem wm_6_63 : (Jvm.Cond.methodLink "GridmenderLaw" (170 : Nat) ({ cls := "GridmenderModel", name := "turn", desc := "(IZI)I" } : Jvm.MethodName)) ∈ wAll := wAll_in (tb_6 (List.mem_of_getElem? (i := 63) rfl)) rfl
theorem wm_6_64 : (Jvm.Cond.instanceMethod ({ cls := "GridmenderModel", name := "turn", desc := "(IZI)I" } : Jvm.MethodName)) ∈ wAll := wAll_in (tb_6 (List.mem_of_getElem? (i := 64) rfl)) rfl
theorem wm_6_65 : (Jvm.Cond.selects "GridmenderModel" ({ cls := "GridmenderModel", name := "turn", desc := "(IZI)I" } : Jvm.MethodName) ({ cls := "GridmenderModel", name := "turn", desc := "(IZI)I" } : Jvm.MethodName)) ∈ wAll := wAll_in (tb_6 (List.mem_of_getElem? (i := 65) rfl)) rfl
theorem wm_6_66 : (Jvm.Cond.code ({ cls := "GridmenderModel", name := "turn", desc := "(IZI)I" } : Jvm.MethodName) prog_9_method_26_code (6 : Nat) (Option.some Jvm.ClassFile.FieldType.int)) ∈ wAll := wAll_in (tb_6 (List.mem_of_getElem? (i := 66) rfl)) rfl
theorem wm_6_67 : (Jvm.Cond.methodLink "GridmenderModel" (137 : Nat) ({ cls := "GridmenderModel$Grid", name := "turnRow", desc := "(I)V" } : Jvm.MethodName)) ∈ wAll := wAll_in (tb_6 (List.mem_of_getElem? (i := 67) rfl)) rfl
theorem wm_6_68 : (Jvm.Cond.instanceMethod ({ cls := "GridmenderModel$Grid", name := "turnRow", desc := "(I)V" } : Jvm.MethodName)) ∈ wAll := wAll_in (tb_6 (List.mem_of_getElem? (i := 68) rfl)) rfl
theorem wm_6_69 : (Jvm.Cond.selects "GridmenderModel$Grid" ({ cls := "GridmenderModel$Grid", name := "turnRow", desc := "(I)V" } : Jvm.MethodName) ({ cls := "GridmenderModel$Grid", name := "turnRow", desc := "(I)V" } : Jvm.MethodName)) ∈ wAll := wAll_in (tb_6 (List.mem_of_getElem? (i := 69) rfl)) rfl
theorem wm_6_70 : (Jvm.Cond.code ({ cls := "GridmenderModel$Grid", name := "turnRow", desc := "(I)V" } : Jvm.MethodName) prog_10_method_8_code (3 : Nat) (Option.none : Option Jvm.ClassFile.FieldType)) ∈ wAll := wAll_in (tb_6 (List.mem_of_getElem? (i := 70) rfl)) rfl
theorem wm_6_71 : (Jvm.Cond.methodLink "GridmenderLaw" (174 : Nat) ({ cls := "GridmenderModel", name := "add", desc := "(IZIII)I" } : Jvm.MethodName)) ∈ wAll := wAll_in (tb_6 (List.mem_of_getElem? (i := 71) rfl)) rfl
theorem wm_6_72 : (Jvm.Cond.instanceMethod ({ cls := "GridmenderModel", name := "add", desc := "(IZIII)I" } : Jvm.MethodName)) ∈ wAll := wAll_in (tb_6 (List.mem_of_getElem? (i := 72) rfl)) rfl
theorem wm_6_73 : (Jvm.Cond.selects "GridmenderModel" ({ cls := "GridmenderModel", name := "add", desc := "(IZIII)I" } : Jvm.MethodName) ({ cls := "GridmenderModel", name := "add", desc := "(IZIII)I" } : Jvm.MethodName)) ∈ wAll := wAll_in (tb_6 (List.mem_of_getElem? (i := 73) rfl)) rfl
theorem wm_6_74 : (Jvm.Cond.code ({ cls := "GridmenderModel", name := "add", desc := "(IZIII)I" } : Jvm.MethodName) prog_9_method_27_code (7 : Nat) (Option.some Jvm.ClassFile.FieldType.int)) ∈ wAll := wAll_in (tb_6 (List.mem_of_getElem? (i := 74) rfl)) rfl
theorem wm_6_75 : (Jvm.Cond.methodLink "GridmenderModel" (141 : Nat) ({ cls := "GridmenderModel$Grid", name := "addColumn", desc := "(IIJ)V" } : Jvm.MethodName)) ∈ wAll := wAll_in (tb_6 (List.mem_of_getElem? (i := 75) rfl)) rfl
theorem wm_6_76 : (Jvm.Cond.instanceMethod ({ cls := "GridmenderModel$Grid", name := "addColumn", desc := "(IIJ)V" } : Jvm.MethodName)) ∈ wAll := wAll_in (tb_6 (List.mem_of_getElem? (i := 76) rfl)) rfl
theorem wm_6_77 : (Jvm.Cond.selects "GridmenderModel$Grid" ({ cls := "GridmenderModel$Grid", name := "addColumn", desc := "(IIJ)V" } : Jvm.MethodName) ({ cls := "GridmenderModel$Grid", name := "addColumn", desc := "(IIJ)V" } : Jvm.MethodName)) ∈ wAll := wAll_in (tb_6 (List.mem_of_getElem? (i := 77) rfl)) rfl
theorem wm_6_78 : (Jvm.Cond.code ({ cls := "GridmenderModel$Grid", name := "addColumn", desc := "(IIJ)V" } : Jvm.MethodName) prog_10_method_10_code (6 : Nat) (Option.none : Option Jvm.ClassFile.FieldType)) ∈ wAll := wAll_in (tb_6 (List.mem_of_getElem? (i := 78) rfl)) rfl
theorem wm_6_79 : (Jvm.Cond.methodLink "GridmenderModel" (144 : Nat) ({ cls := "GridmenderModel$Grid", name := "addRow", desc := "(IIJ)V" } : Jvm.MethodName)) ∈ wAll := wAll_in (tb_6 (List.mem_of_getElem? (i := 79) rfl)) rfl
theorem wm_6_80 : (Jvm.Cond.instanceMethod ({ cls := "GridmenderModel$Grid", name := "addRow", desc := "(IIJ)V" } : Jvm.MethodName)) ∈ wAll := wAll_in (tb_6 (List.mem_of_getElem? (i := 80) rfl)) rfl
theorem wm_6_81 : (Jvm.Cond.selects "GridmenderModel$Grid" ({ cls := "GridmenderModel$Grid", name := "addRow", desc := "(IIJ)V" } : Jvm.MethodName) ({ cls := "GridmenderModel$Grid", name := "addRow", desc := "(IIJ)V" } : Jvm.MethodName)) ∈ wAll := wAll_in (tb_6 (List.mem_of_getElem? (i := 81) rfl)) rfl
theorem wm_6_82 : (Jvm.Cond.code ({ cls := "GridmenderModel$Grid", name := "addRow", desc := "(IIJ)V" } : Jvm.MethodName) prog_10_method_9_code (6 : Nat) (Option.none : Option Jvm.ClassFile.FieldType)) ∈ wAll := wAll_in (tb_6 (List.mem_of_getElem? (i := 82) rfl)) rfl
theorem wm_6_83 : (Jvm.Cond.methodLink "GridmenderModel" (59 : Nat) ({ cls := "GridmenderModel$Grid", name := "isLet", desc := "()Z" } : Jvm.MethodName)) ∈ wAll := wAll_in (tb_6 (List.mem_of_getElem? (i := 83) rfl)) rfl
theorem wm_6_84 : (Jvm.Cond.instanceMethod ({ cls := "GridmenderModel$Grid", name := "isLet", desc := "()Z" } : Jvm.MethodName)) ∈ wAll := wAll_in (tb_6 (List.mem_of_getElem? (i := 84) rfl)) rfl
theorem wm_6_85 : (Jvm.Cond.selects "GridmenderModel$Grid" ({ cls := "GridmenderModel$Grid", name := "isLet", desc := "()Z" } : Jvm.MethodName) ({ cls := "GridmenderModel$Grid", name := "isLet", desc := "()Z" } : Jvm.MethodName)) ∈ wAll := wAll_in (tb_6 (List.mem_of_getElem? (i := 85) rfl)) rfl
theorem wm_6_86 : (Jvm.Cond.code ({ cls := "GridmenderModel$Grid", name := "isLet", desc := "()Z" } : Jvm.MethodName) prog_10_method_12_code (6 : Nat) (Option.some Jvm.ClassFile.FieldType.boolean)) ∈ wAll := wAll_in (tb_6 (List.mem_of_getElem? (i := 86) rfl)) rfl
theorem wm_6_87 : (Jvm.Cond.constantLong "GridmenderModel$Grid" (37 : Nat) (20 : Int64)) ∈ wAll := wAll_in (tb_6 (List.mem_of_getElem? (i := 87) rfl)) rfl
theorem wm_6_88 : (Jvm.Cond.constantLong "GridmenderModel$Grid" (39 : Nat) (-20 : Int64)) ∈ wAll := wAll_in (tb_6 (List.mem_of_getElem? (i := 88) rfl)) rfl
theorem wm_6_89 : (Jvm.Cond.methodLink "GridmenderModel" (63 : Nat) ({ cls := "GridmenderModel", name := "no", desc := "()I" } : Jvm.MethodName)) ∈ wAll := wAll_in (tb_6 (List.mem_of_getElem? (i := 89) rfl)) rfl
theorem wn_6_90 : (Jvm.Cond.privateMethod ({ cls := "GridmenderModel", name := "no", desc := "()I" } : Jvm.MethodName)) ∈ wNest := wNest_in (tb_6 (List.mem_of_getElem? (i := 90) rfl)) rfl
theorem wm_6_91 : (Jvm.Cond.instanceMethod ({ cls := "GridmenderModel", name := "no", desc := "()I" } : Jvm.MethodName)) ∈ wAll := wAll_in (tb_6 (List.mem_of_getElem? (i := 91) rfl)) rfl
theorem wm_6_92 : (Jvm.Cond.code ({ cls := "GridmenderModel", name := "no", desc := "()I" } : Jvm.MethodName) prog_9_method_8_code (1 : Nat) (Option.some Jvm.ClassFile.FieldType.int)) ∈ wAll := wAll_in (tb_6 (List.mem_of_getElem? (i := 92) rfl)) rfl
theorem wm_6_93 : (Jvm.Cond.methodLink "GridmenderLaw" (178 : Nat) ({ cls := "GridmenderModel", name := "widen", desc := "(IZ)I" } : Jvm.MethodName)) ∈ wAll := wAll_in (tb_6 (List.mem_of_getElem? (i := 93) rfl)) rfl
theorem wm_6_94 : (Jvm.Cond.instanceMethod ({ cls := "GridmenderModel", name := "widen", desc := "(IZ)I" } : Jvm.MethodName)) ∈ wAll := wAll_in (tb_6 (List.mem_of_getElem? (i := 94) rfl)) rfl
theorem wm_6_95 : (Jvm.Cond.selects "GridmenderModel" ({ cls := "GridmenderModel", name := "widen", desc := "(IZ)I" } : Jvm.MethodName) ({ cls := "GridmenderModel", name := "widen", desc := "(IZ)I" } : Jvm.MethodName)) ∈ wAll := wAll_in (tb_6 (List.mem_of_getElem? (i := 95) rfl)) rfl
theorem wm_6_96 : (Jvm.Cond.code ({ cls := "GridmenderModel", name := "widen", desc := "(IZ)I" } : Jvm.MethodName) prog_9_method_29_code (5 : Nat) (Option.some Jvm.ClassFile.FieldType.int)) ∈ wAll := wAll_in (tb_6 (List.mem_of_getElem? (i := 96) rfl)) rfl
theorem wm_6_97 : (Jvm.Cond.methodLink "GridmenderModel" (147 : Nat) ({ cls := "GridmenderModel", name := "shaped", desc := "(LGridmenderModel$Grid;IIII)LGridmenderModel$Grid;" } : Jvm.MethodName)) ∈ wAll := wAll_in (tb_6 (List.mem_of_getElem? (i := 97) rfl)) rfl
theorem wm_6_98 : (Jvm.Cond.static ({ cls := "GridmenderModel", name := "shaped", desc := "(LGridmenderModel$Grid;IIII)LGridmenderModel$Grid;" } : Jvm.MethodName)) ∈ wAll := wAll_in (tb_6 (List.mem_of_getElem? (i := 98) rfl)) rfl
theorem wm_6_99 : (Jvm.Cond.code ({ cls := "GridmenderModel", name := "shaped", desc := "(LGridmenderModel$Grid;IIII)LGridmenderModel$Grid;" } : Jvm.MethodName) prog_9_method_28_code (10 : Nat) (Option.some (Jvm.ClassFile.FieldType.object "GridmenderModel$Grid"))) ∈ wAll := wAll_in (tb_6 (List.mem_of_getElem? (i := 99) rfl)) rfl
theorem wm_6_100 : (Jvm.Cond.methodLink "GridmenderLaw" (181 : Nat) ({ cls := "GridmenderModel", name := "drop", desc := "(IZI)I" } : Jvm.MethodName)) ∈ wAll := wAll_in (tb_6 (List.mem_of_getElem? (i := 100) rfl)) rfl
theorem wm_6_101 : (Jvm.Cond.instanceMethod ({ cls := "GridmenderModel", name := "drop", desc := "(IZI)I" } : Jvm.MethodName)) ∈ wAll := wAll_in (tb_6 (List.mem_of_getElem? (i := 101) rfl)) rfl
theorem wm_6_102 : (Jvm.Cond.selects "GridmenderModel" ({ cls := "GridmenderModel", name := "drop", desc := "(IZI)I" } : Jvm.MethodName) ({ cls := "GridmenderModel", name := "drop", desc := "(IZI)I" } : Jvm.MethodName)) ∈ wAll := wAll_in (tb_6 (List.mem_of_getElem? (i := 102) rfl)) rfl
theorem wm_6_103 : (Jvm.Cond.code ({ cls := "GridmenderModel", name := "drop", desc := "(IZI)I" } : Jvm.MethodName) prog_9_method_30_code (6 : Nat) (Option.some Jvm.ClassFile.FieldType.int)) ∈ wAll := wAll_in (tb_6 (List.mem_of_getElem? (i := 103) rfl)) rfl
theorem wm_6_104 : (Jvm.Cond.methodLink "GridmenderLaw" (185 : Nat) ({ cls := "GridmenderModel", name := "sum", desc := "(IIZI)I" } : Jvm.MethodName)) ∈ wAll := wAll_in (tb_6 (List.mem_of_getElem? (i := 104) rfl)) rfl
theorem wm_6_105 : (Jvm.Cond.instanceMethod ({ cls := "GridmenderModel", name := "sum", desc := "(IIZI)I" } : Jvm.MethodName)) ∈ wAll := wAll_in (tb_6 (List.mem_of_getElem? (i := 105) rfl)) rfl
theorem wm_6_106 : (Jvm.Cond.selects "GridmenderModel" ({ cls := "GridmenderModel", name := "sum", desc := "(IIZI)I" } : Jvm.MethodName) ({ cls := "GridmenderModel", name := "sum", desc := "(IIZI)I" } : Jvm.MethodName)) ∈ wAll := wAll_in (tb_6 (List.mem_of_getElem? (i := 106) rfl)) rfl
theorem wm_6_107 : (Jvm.Cond.code ({ cls := "GridmenderModel", name := "sum", desc := "(IIZI)I" } : Jvm.MethodName) prog_9_method_31_code (9 : Nat) (Option.some Jvm.ClassFile.FieldType.int)) ∈ wAll := wAll_in (tb_6 (List.mem_of_getElem? (i := 107) rfl)) rfl
theorem wm_6_108 : (Jvm.Cond.methodLink "GridmenderModel" (155 : Nat) ({ cls := "GridmenderModel", name := "become", desc := "(ILGridmenderModel$Grid;)I" } : Jvm.MethodName)) ∈ wAll := wAll_in (tb_6 (List.mem_of_getElem? (i := 108) rfl)) rfl
theorem wn_6_109 : (Jvm.Cond.privateMethod ({ cls := "GridmenderModel", name := "become", desc := "(ILGridmenderModel$Grid;)I" } : Jvm.MethodName)) ∈ wNest := wNest_in (tb_6 (List.mem_of_getElem? (i := 109) rfl)) rfl
theorem wm_6_110 : (Jvm.Cond.instanceMethod ({ cls := "GridmenderModel", name := "become", desc := "(ILGridmenderModel$Grid;)I" } : Jvm.MethodName)) ∈ wAll := wAll_in (tb_6 (List.mem_of_getElem? (i := 110) rfl)) rfl
theorem wm_6_111 : (Jvm.Cond.code ({ cls := "GridmenderModel", name := "become", desc := "(ILGridmenderModel$Grid;)I" } : Jvm.MethodName) prog_9_method_14_code (3 : Nat) (Option.some Jvm.ClassFile.FieldType.int)) ∈ wAll := wAll_in (tb_6 (List.mem_of_getElem? (i := 111) rfl)) rfl
theorem wm_6_112 : (Jvm.Cond.methodLink "GridmenderLaw" (188 : Nat) ({ cls := "GridmenderModel", name := "multiply", desc := "(III)I" } : Jvm.MethodName)) ∈ wAll := wAll_in (tb_6 (List.mem_of_getElem? (i := 112) rfl)) rfl
theorem wm_6_113 : (Jvm.Cond.instanceMethod ({ cls := "GridmenderModel", name := "multiply", desc := "(III)I" } : Jvm.MethodName)) ∈ wAll := wAll_in (tb_6 (List.mem_of_getElem? (i := 113) rfl)) rfl
theorem wm_6_114 : (Jvm.Cond.selects "GridmenderModel" ({ cls := "GridmenderModel", name := "multiply", desc := "(III)I" } : Jvm.MethodName) ({ cls := "GridmenderModel", name := "multiply", desc := "(III)I" } : Jvm.MethodName)) ∈ wAll := wAll_in (tb_6 (List.mem_of_getElem? (i := 114) rfl)) rfl
theorem wm_6_115 : (Jvm.Cond.code ({ cls := "GridmenderModel", name := "multiply", desc := "(III)I" } : Jvm.MethodName) prog_9_method_32_code (4 : Nat) (Option.some Jvm.ClassFile.FieldType.int)) ∈ wAll := wAll_in (tb_6 (List.mem_of_getElem? (i := 115) rfl)) rfl
theorem wm_6_116 : (Jvm.Cond.methodLink "GridmenderModel" (158 : Nat) ({ cls := "GridmenderModel$Grid", name := "product", desc := "(LGridmenderModel$Grid;)LGridmenderModel$Grid;" } : Jvm.MethodName)) ∈ wAll := wAll_in (tb_6 (List.mem_of_getElem? (i := 116) rfl)) rfl
theorem wm_6_117 : (Jvm.Cond.instanceMethod ({ cls := "GridmenderModel$Grid", name := "product", desc := "(LGridmenderModel$Grid;)LGridmenderModel$Grid;" } : Jvm.MethodName)) ∈ wAll := wAll_in (tb_6 (List.mem_of_getElem? (i := 117) rfl)) rfl
theorem wm_6_118 : (Jvm.Cond.selects "GridmenderModel$Grid" ({ cls := "GridmenderModel$Grid", name := "product", desc := "(LGridmenderModel$Grid;)LGridmenderModel$Grid;" } : Jvm.MethodName) ({ cls := "GridmenderModel$Grid", name := "product", desc := "(LGridmenderModel$Grid;)LGridmenderModel$Grid;" } : Jvm.MethodName)) ∈ wAll := wAll_in (tb_6 (List.mem_of_getElem? (i := 118) rfl)) rfl
theorem wm_6_119 : (Jvm.Cond.code ({ cls := "GridmenderModel$Grid", name := "product", desc := "(LGridmenderModel$Grid;)LGridmenderModel$Grid;" } : Jvm.MethodName) prog_10_method_16_code (8 : Nat) (Option.some (Jvm.ClassFile.FieldType.object "GridmenderModel$Grid"))) ∈ wAll := wAll_in (tb_6 (List.mem_of_getElem? (i := 119) rfl)) rfl
theorem wm_6_120 : (Jvm.Cond.methodLink "GridmenderLaw" (191 : Nat) ({ cls := "GridmenderModel", name := "take", desc := "(III)I" } : Jvm.MethodName)) ∈ wAll := wAll_in (tb_6 (List.mem_of_getElem? (i := 120) rfl)) rfl
theorem wm_6_121 : (Jvm.Cond.instanceMethod ({ cls := "GridmenderModel", name := "take", desc := "(III)I" } : Jvm.MethodName)) ∈ wAll := wAll_in (tb_6 (List.mem_of_getElem? (i := 121) rfl)) rfl
theorem wm_6_122 : (Jvm.Cond.selects "GridmenderModel" ({ cls := "GridmenderModel", name := "take", desc := "(III)I" } : Jvm.MethodName) ({ cls := "GridmenderModel", name := "take", desc := "(III)I" } : Jvm.MethodName)) ∈ wAll := wAll_in (tb_6 (List.mem_of_getElem? (i := 122) rfl)) rfl
theorem wm_6_123 : (Jvm.Cond.code ({ cls := "GridmenderModel", name := "take", desc := "(III)I" } : Jvm.MethodName) prog_9_method_34_code (5 : Nat) (Option.some Jvm.ClassFile.FieldType.int)) ∈ wAll := wAll_in (tb_6 (List.mem_of_getElem? (i := 123) rfl)) rfl
theorem wm_6_124 : (Jvm.Cond.methodLink "GridmenderModel" (188 : Nat) ({ cls := "GridmenderModel", name := "toldOf", desc := "(LGridmenderModel$Grid;I)LGridmenderModel$Grid;" } : Jvm.MethodName)) ∈ wAll := wAll_in (tb_6 (List.mem_of_getElem? (i := 124) rfl)) rfl
theorem wm_6_125 : (Jvm.Cond.static ({ cls := "GridmenderModel", name := "toldOf", desc := "(LGridmenderModel$Grid;I)LGridmenderModel$Grid;" } : Jvm.MethodName)) ∈ wAll := wAll_in (tb_6 (List.mem_of_getElem? (i := 125) rfl)) rfl
theorem wm_6_126 : (Jvm.Cond.code ({ cls := "GridmenderModel", name := "toldOf", desc := "(LGridmenderModel$Grid;I)LGridmenderModel$Grid;" } : Jvm.MethodName) prog_9_method_33_code (3 : Nat) (Option.some (Jvm.ClassFile.FieldType.object "GridmenderModel$Grid"))) ∈ wAll := wAll_in (tb_6 (List.mem_of_getElem? (i := 126) rfl)) rfl
theorem wm_6_127 : (Jvm.Cond.classLink "GridmenderModel" (161 : Nat) "GridmenderModel$Stepped") ∈ wAll := wAll_in (tb_6 (List.mem_of_getElem? (i := 127) rfl)) rfl
theorem wm_6_128 : (Jvm.Cond.instantiable "GridmenderModel$Stepped" (4 : Nat)) ∈ wAll := wAll_in (tb_6 (List.mem_of_getElem? (i := 128) rfl)) rfl
theorem wm_6_129 : (Jvm.Cond.methodLink "GridmenderModel" (163 : Nat) ({ cls := "GridmenderModel$Stepped", name := "<init>", desc := "(LGridmenderModel$Grid;)V" } : Jvm.MethodName)) ∈ wAll := wAll_in (tb_6 (List.mem_of_getElem? (i := 129) rfl)) rfl
theorem wm_6_130 : (Jvm.Cond.instanceMethod ({ cls := "GridmenderModel$Stepped", name := "<init>", desc := "(LGridmenderModel$Grid;)V" } : Jvm.MethodName)) ∈ wAll := wAll_in (tb_6 (List.mem_of_getElem? (i := 130) rfl)) rfl
theorem wm_6_131 : (Jvm.Cond.code ({ cls := "GridmenderModel$Stepped", name := "<init>", desc := "(LGridmenderModel$Grid;)V" } : Jvm.MethodName) prog_11_method_1_code (4 : Nat) (Option.none : Option Jvm.ClassFile.FieldType)) ∈ wAll := wAll_in (tb_6 (List.mem_of_getElem? (i := 131) rfl)) rfl
theorem wm_6_132 : (Jvm.Cond.methodLink "GridmenderModel$Stepped" (1 : Nat) ({ cls := "java/lang/Object", name := "<init>", desc := "()V" } : Jvm.MethodName)) ∈ wAll := wAll_in (tb_6 (List.mem_of_getElem? (i := 132) rfl)) rfl
theorem wm_6_133 : (Jvm.Cond.methodLink "GridmenderModel$Stepped" (13 : Nat) ({ cls := "GridmenderModel$Grid", name := "copy", desc := "()LGridmenderModel$Grid;" } : Jvm.MethodName)) ∈ wAll := wAll_in (tb_6 (List.mem_of_getElem? (i := 133) rfl)) rfl
theorem wm_6_134 : (Jvm.Cond.methodLink "GridmenderModel$Stepped" (26 : Nat) ({ cls := "GridmenderModel$Grid", name := "unit", desc := "(I)LGridmenderModel$Grid;" } : Jvm.MethodName)) ∈ wAll := wAll_in (tb_6 (List.mem_of_getElem? (i := 134) rfl)) rfl
theorem wm_6_135 : (Jvm.Cond.methodLink "GridmenderModel$Stepped" (40 : Nat) ({ cls := "GridmenderModel$Stepped", name := "isCleared", desc := "(II)Z" } : Jvm.MethodName)) ∈ wAll := wAll_in (tb_6 (List.mem_of_getElem? (i := 135) rfl)) rfl
theorem wn_6_136 : (Jvm.Cond.privateMethod ({ cls := "GridmenderModel$Stepped", name := "isCleared", desc := "(II)Z" } : Jvm.MethodName)) ∈ wNest := wNest_in (tb_6 (List.mem_of_getElem? (i := 136) rfl)) rfl
theorem wm_6_137 : (Jvm.Cond.instanceMethod ({ cls := "GridmenderModel$Stepped", name := "isCleared", desc := "(II)Z" } : Jvm.MethodName)) ∈ wAll := wAll_in (tb_6 (List.mem_of_getElem? (i := 137) rfl)) rfl
theorem wm_6_138 : (Jvm.Cond.code ({ cls := "GridmenderModel$Stepped", name := "isCleared", desc := "(II)Z" } : Jvm.MethodName) prog_11_method_4_code (6 : Nat) (Option.some Jvm.ClassFile.FieldType.boolean)) ∈ wAll := wAll_in (tb_6 (List.mem_of_getElem? (i := 138) rfl)) rfl
theorem wm_6_139 : (Jvm.Cond.methodLink "GridmenderModel$Stepped" (65 : Nat) ({ cls := "GridmenderModel$Stepped", name := "least", desc := "(II)I" } : Jvm.MethodName)) ∈ wAll := wAll_in (tb_6 (List.mem_of_getElem? (i := 139) rfl)) rfl
theorem wn_6_140 : (Jvm.Cond.privateMethod ({ cls := "GridmenderModel$Stepped", name := "least", desc := "(II)I" } : Jvm.MethodName)) ∈ wNest := wNest_in (tb_6 (List.mem_of_getElem? (i := 140) rfl)) rfl
theorem wm_6_141 : (Jvm.Cond.instanceMethod ({ cls := "GridmenderModel$Stepped", name := "least", desc := "(II)I" } : Jvm.MethodName)) ∈ wAll := wAll_in (tb_6 (List.mem_of_getElem? (i := 141) rfl)) rfl
theorem wm_6_142 : (Jvm.Cond.code ({ cls := "GridmenderModel$Stepped", name := "least", desc := "(II)I" } : Jvm.MethodName) prog_11_method_3_code (5 : Nat) (Option.some Jvm.ClassFile.FieldType.int)) ∈ wAll := wAll_in (tb_6 (List.mem_of_getElem? (i := 142) rfl)) rfl
theorem wm_6_143 : (Jvm.Cond.methodLink "GridmenderModel$Stepped" (44 : Nat) ({ cls := "GridmenderModel$Grid", name := "at", desc := "(II)J" } : Jvm.MethodName)) ∈ wAll := wAll_in (tb_6 (List.mem_of_getElem? (i := 143) rfl)) rfl
theorem wm_6_144 : (Jvm.Cond.methodLink "GridmenderModel$Stepped" (61 : Nat) ({ cls := "java/lang/Math", name := "abs", desc := "(J)J" } : Jvm.MethodName)) ∈ wAll := wAll_in (tb_6 (List.mem_of_getElem? (i := 144) rfl)) rfl
theorem wm_6_145 : (Jvm.Cond.methodLink "GridmenderModel$Stepped" (69 : Nat) ({ cls := "GridmenderModel$Grid", name := "exchangeRows", desc := "(II)V" } : Jvm.MethodName)) ∈ wAll := wAll_in (tb_6 (List.mem_of_getElem? (i := 145) rfl)) rfl
theorem wm_6_146 : (Jvm.Cond.methodLink "GridmenderModel$Stepped" (73 : Nat) ({ cls := "GridmenderModel$Grid", name := "turnRow", desc := "(I)V" } : Jvm.MethodName)) ∈ wAll := wAll_in (tb_6 (List.mem_of_getElem? (i := 146) rfl)) rfl
theorem wm_6_147 : (Jvm.Cond.methodLink "GridmenderModel$Stepped" (77 : Nat) ({ cls := "GridmenderModel$Stepped", name := "takeOff", desc := "(III)V" } : Jvm.MethodName)) ∈ wAll := wAll_in (tb_6 (List.mem_of_getElem? (i := 147) rfl)) rfl
theorem wn_6_148 : (Jvm.Cond.privateMethod ({ cls := "GridmenderModel$Stepped", name := "takeOff", desc := "(III)V" } : Jvm.MethodName)) ∈ wNest := wNest_in (tb_6 (List.mem_of_getElem? (i := 148) rfl)) rfl
theorem wm_6_149 : (Jvm.Cond.instanceMethod ({ cls := "GridmenderModel$Stepped", name := "takeOff", desc := "(III)V" } : Jvm.MethodName)) ∈ wAll := wAll_in (tb_6 (List.mem_of_getElem? (i := 149) rfl)) rfl
theorem wm_6_150 : (Jvm.Cond.code ({ cls := "GridmenderModel$Stepped", name := "takeOff", desc := "(III)V" } : Jvm.MethodName) prog_11_method_2_code (6 : Nat) (Option.none : Option Jvm.ClassFile.FieldType)) ∈ wAll := wAll_in (tb_6 (List.mem_of_getElem? (i := 150) rfl)) rfl
theorem wm_6_151 : (Jvm.Cond.methodLink "GridmenderModel$Stepped" (48 : Nat) ({ cls := "java/lang/Math", name := "floorDiv", desc := "(JJ)J" } : Jvm.MethodName)) ∈ wAll := wAll_in (tb_6 (List.mem_of_getElem? (i := 151) rfl)) rfl
theorem wm_6_152 : (Jvm.Cond.methodLink "GridmenderModel$Stepped" (54 : Nat) ({ cls := "GridmenderModel$Grid", name := "addRow", desc := "(IIJ)V" } : Jvm.MethodName)) ∈ wAll := wAll_in (tb_6 (List.mem_of_getElem? (i := 152) rfl)) rfl
theorem wm_6_153 : (Jvm.Cond.methodLink "GridmenderModel$Stepped" (58 : Nat) ({ cls := "GridmenderModel$Grid", name := "isGreat", desc := "()Z" } : Jvm.MethodName)) ∈ wAll := wAll_in (tb_6 (List.mem_of_getElem? (i := 153) rfl)) rfl
theorem wm_6_154 : (Jvm.Cond.instanceMethod ({ cls := "GridmenderModel$Grid", name := "isGreat", desc := "()Z" } : Jvm.MethodName)) ∈ wAll := wAll_in (tb_6 (List.mem_of_getElem? (i := 154) rfl)) rfl
theorem wm_6_155 : (Jvm.Cond.selects "GridmenderModel$Grid" ({ cls := "GridmenderModel$Grid", name := "isGreat", desc := "()Z" } : Jvm.MethodName) ({ cls := "GridmenderModel$Grid", name := "isGreat", desc := "()Z" } : Jvm.MethodName)) ∈ wAll := wAll_in (tb_6 (List.mem_of_getElem? (i := 155) rfl)) rfl
theorem wm_6_156 : (Jvm.Cond.code ({ cls := "GridmenderModel$Grid", name := "isGreat", desc := "()Z" } : Jvm.MethodName) prog_10_method_11_code (6 : Nat) (Option.some Jvm.ClassFile.FieldType.boolean)) ∈ wAll := wAll_in (tb_6 (List.mem_of_getElem? (i := 156) rfl)) rfl
theorem wm_6_157 : (Jvm.Cond.constantLong "GridmenderModel$Grid" (33 : Nat) (1000000000 : Int64)) ∈ wAll := wAll_in (tb_6 (List.mem_of_getElem? (i := 157) rfl)) rfl
theorem wm_6_158 : (Jvm.Cond.constantLong "GridmenderModel$Grid" (35 : Nat) (-1000000000 : Int64)) ∈ wAll := wAll_in (tb_6 (List.mem_of_getElem? (i := 158) rfl)) rfl
theorem wm_6_159 : (Jvm.Cond.fieldLink "GridmenderModel$Stepped" (19 : Nat) "GridmenderModel$Stepped" "w" "LGridmenderModel$Grid;") ∈ wAll := wAll_in (tb_6 (List.mem_of_getElem? (i := 159) rfl)) rfl
theorem wm_6_160 : (Jvm.Cond.fieldLink "GridmenderModel" (170 : Nat) "GridmenderModel$Stepped" "w" "LGridmenderModel$Grid;") ∈ wAll := wAll_in (tb_6 (List.mem_of_getElem? (i := 160) rfl)) rfl
theorem wm_6_161 : (Jvm.Cond.fieldLink "GridmenderModel$Stepped" (30 : Nat) "GridmenderModel$Stepped" "c" "LGridmenderModel$Grid;") ∈ wAll := wAll_in (tb_6 (List.mem_of_getElem? (i := 161) rfl)) rfl
theorem wm_6_162 : (Jvm.Cond.fieldLink "GridmenderModel" (174 : Nat) "GridmenderModel$Stepped" "c" "LGridmenderModel$Grid;") ∈ wAll := wAll_in (tb_6 (List.mem_of_getElem? (i := 162) rfl)) rfl
theorem wm_6_163 : (Jvm.Cond.fieldLink "GridmenderModel$Stepped" (7 : Nat) "GridmenderModel$Stepped" "side" "I") ∈ wAll := wAll_in (tb_6 (List.mem_of_getElem? (i := 163) rfl)) rfl
theorem wm_6_164 : (Jvm.Cond.fieldLink "GridmenderModel" (241 : Nat) "GridmenderModel$Stepped" "side" "I") ∈ wAll := wAll_in (tb_6 (List.mem_of_getElem? (i := 164) rfl)) rfl
theorem wm_6_165 : (Jvm.Cond.fieldLink "GridmenderModel$Stepped" (36 : Nat) "GridmenderModel$Stepped" "isGreat" "Z") ∈ wAll := wAll_in (tb_6 (List.mem_of_getElem? (i := 165) rfl)) rfl
theorem wm_6_166 : (Jvm.Cond.fieldLink "GridmenderModel" (166 : Nat) "GridmenderModel$Stepped" "isGreat" "Z") ∈ wAll := wAll_in (tb_6 (List.mem_of_getElem? (i := 166) rfl)) rfl
theorem wm_6_175 : (Jvm.Cond.superclass "GridmenderModel$Stepped" "java/lang/Object") ∈ wAll := wAll_in (tb_6 (List.mem_of_getElem? (i := 175) rfl)) rfl
theorem wm_6_176 : (Jvm.Cond.classLink "GridmenderModel" (177 : Nat) "GridmenderModel$Straight") ∈ wAll := wAll_in (tb_6 (List.mem_of_getElem? (i := 176) rfl)) rfl
theorem wm_6_177 : (Jvm.Cond.instantiable "GridmenderModel$Straight" (7 : Nat)) ∈ wAll := wAll_in (tb_6 (List.mem_of_getElem? (i := 177) rfl)) rfl
theorem wm_6_178 : (Jvm.Cond.methodLink "GridmenderModel" (179 : Nat) ({ cls := "GridmenderModel$Straight", name := "<init>", desc := "(LGridmenderModel$Grid;)V" } : Jvm.MethodName)) ∈ wAll := wAll_in (tb_6 (List.mem_of_getElem? (i := 178) rfl)) rfl
theorem wm_6_179 : (Jvm.Cond.instanceMethod ({ cls := "GridmenderModel$Straight", name := "<init>", desc := "(LGridmenderModel$Grid;)V" } : Jvm.MethodName)) ∈ wAll := wAll_in (tb_6 (List.mem_of_getElem? (i := 179) rfl)) rfl
theorem wm_6_180 : (Jvm.Cond.code ({ cls := "GridmenderModel$Straight", name := "<init>", desc := "(LGridmenderModel$Grid;)V" } : Jvm.MethodName) prog_12_method_1_code (4 : Nat) (Option.none : Option Jvm.ClassFile.FieldType)) ∈ wAll := wAll_in (tb_6 (List.mem_of_getElem? (i := 180) rfl)) rfl
theorem wm_6_181 : (Jvm.Cond.methodLink "GridmenderModel$Straight" (1 : Nat) ({ cls := "java/lang/Object", name := "<init>", desc := "()V" } : Jvm.MethodName)) ∈ wAll := wAll_in (tb_6 (List.mem_of_getElem? (i := 181) rfl)) rfl
theorem wm_6_182 : (Jvm.Cond.methodLink "GridmenderModel$Straight" (16 : Nat) ({ cls := "GridmenderModel$Grid", name := "copy", desc := "()LGridmenderModel$Grid;" } : Jvm.MethodName)) ∈ wAll := wAll_in (tb_6 (List.mem_of_getElem? (i := 182) rfl)) rfl
theorem wm_6_183 : (Jvm.Cond.methodLink "GridmenderModel$Straight" (29 : Nat) ({ cls := "GridmenderModel$Grid", name := "unit", desc := "(I)LGridmenderModel$Grid;" } : Jvm.MethodName)) ∈ wAll := wAll_in (tb_6 (List.mem_of_getElem? (i := 183) rfl)) rfl
theorem wm_6_184 : (Jvm.Cond.methodLink "GridmenderModel$Straight" (42 : Nat) ({ cls := "GridmenderModel$Straight", name := "isCleared", desc := "(I)Z" } : Jvm.MethodName)) ∈ wAll := wAll_in (tb_6 (List.mem_of_getElem? (i := 184) rfl)) rfl
theorem wn_6_185 : (Jvm.Cond.privateMethod ({ cls := "GridmenderModel$Straight", name := "isCleared", desc := "(I)Z" } : Jvm.MethodName)) ∈ wNest := wNest_in (tb_6 (List.mem_of_getElem? (i := 185) rfl)) rfl
theorem wm_6_186 : (Jvm.Cond.instanceMethod ({ cls := "GridmenderModel$Straight", name := "isCleared", desc := "(I)Z" } : Jvm.MethodName)) ∈ wAll := wAll_in (tb_6 (List.mem_of_getElem? (i := 186) rfl)) rfl
theorem wm_6_187 : (Jvm.Cond.code ({ cls := "GridmenderModel$Straight", name := "isCleared", desc := "(I)Z" } : Jvm.MethodName) prog_12_method_3_code (6 : Nat) (Option.some Jvm.ClassFile.FieldType.boolean)) ∈ wAll := wAll_in (tb_6 (List.mem_of_getElem? (i := 187) rfl)) rfl
theorem wm_6_188 : (Jvm.Cond.methodLink "GridmenderModel$Straight" (59 : Nat) ({ cls := "GridmenderModel$Grid", name := "at", desc := "(II)J" } : Jvm.MethodName)) ∈ wAll := wAll_in (tb_6 (List.mem_of_getElem? (i := 188) rfl)) rfl
theorem wm_6_189 : (Jvm.Cond.methodLink "GridmenderModel$Straight" (63 : Nat) ({ cls := "GridmenderModel$Straight", name := "isLess", desc := "(JJ)Z" } : Jvm.MethodName)) ∈ wAll := wAll_in (tb_6 (List.mem_of_getElem? (i := 189) rfl)) rfl
theorem wn_6_190 : (Jvm.Cond.privateMethod ({ cls := "GridmenderModel$Straight", name := "isLess", desc := "(JJ)Z" } : Jvm.MethodName)) ∈ wNest := wNest_in (tb_6 (List.mem_of_getElem? (i := 190) rfl)) rfl
theorem wm_6_191 : (Jvm.Cond.instanceMethod ({ cls := "GridmenderModel$Straight", name := "isLess", desc := "(JJ)Z" } : Jvm.MethodName)) ∈ wAll := wAll_in (tb_6 (List.mem_of_getElem? (i := 191) rfl)) rfl
theorem wm_6_192 : (Jvm.Cond.code ({ cls := "GridmenderModel$Straight", name := "isLess", desc := "(JJ)Z" } : Jvm.MethodName) prog_12_method_2_code (5 : Nat) (Option.some Jvm.ClassFile.FieldType.boolean)) ∈ wAll := wAll_in (tb_6 (List.mem_of_getElem? (i := 192) rfl)) rfl
theorem wm_6_193 : (Jvm.Cond.methodLink "GridmenderModel$Straight" (49 : Nat) ({ cls := "java/lang/Math", name := "abs", desc := "(J)J" } : Jvm.MethodName)) ∈ wAll := wAll_in (tb_6 (List.mem_of_getElem? (i := 193) rfl)) rfl
theorem wm_6_194 : (Jvm.Cond.methodLink "GridmenderModel$Straight" (67 : Nat) ({ cls := "GridmenderModel$Straight", name := "bring", desc := "(III)V" } : Jvm.MethodName)) ∈ wAll := wAll_in (tb_6 (List.mem_of_getElem? (i := 194) rfl)) rfl
theorem wn_6_195 : (Jvm.Cond.privateMethod ({ cls := "GridmenderModel$Straight", name := "bring", desc := "(III)V" } : Jvm.MethodName)) ∈ wNest := wNest_in (tb_6 (List.mem_of_getElem? (i := 195) rfl)) rfl
theorem wm_6_196 : (Jvm.Cond.instanceMethod ({ cls := "GridmenderModel$Straight", name := "bring", desc := "(III)V" } : Jvm.MethodName)) ∈ wAll := wAll_in (tb_6 (List.mem_of_getElem? (i := 196) rfl)) rfl
theorem wm_6_197 : (Jvm.Cond.code ({ cls := "GridmenderModel$Straight", name := "bring", desc := "(III)V" } : Jvm.MethodName) prog_12_method_4_code (4 : Nat) (Option.none : Option Jvm.ClassFile.FieldType)) ∈ wAll := wAll_in (tb_6 (List.mem_of_getElem? (i := 197) rfl)) rfl
theorem wm_6_198 : (Jvm.Cond.methodLink "GridmenderModel$Straight" (81 : Nat) ({ cls := "GridmenderModel$Grid", name := "exchangeRows", desc := "(II)V" } : Jvm.MethodName)) ∈ wAll := wAll_in (tb_6 (List.mem_of_getElem? (i := 198) rfl)) rfl
theorem wm_6_199 : (Jvm.Cond.methodLink "GridmenderModel$Straight" (85 : Nat) ({ cls := "GridmenderModel$Grid", name := "exchangeColumns", desc := "(II)V" } : Jvm.MethodName)) ∈ wAll := wAll_in (tb_6 (List.mem_of_getElem? (i := 199) rfl)) rfl
theorem wm_6_200 : (Jvm.Cond.methodLink "GridmenderModel$Straight" (88 : Nat) ({ cls := "GridmenderModel$Grid", name := "turnRow", desc := "(I)V" } : Jvm.MethodName)) ∈ wAll := wAll_in (tb_6 (List.mem_of_getElem? (i := 200) rfl)) rfl
theorem wm_6_201 : (Jvm.Cond.methodLink "GridmenderModel$Straight" (71 : Nat) ({ cls := "GridmenderModel$Straight", name := "takeOff", desc := "(I)V" } : Jvm.MethodName)) ∈ wAll := wAll_in (tb_6 (List.mem_of_getElem? (i := 201) rfl)) rfl
theorem wn_6_202 : (Jvm.Cond.privateMethod ({ cls := "GridmenderModel$Straight", name := "takeOff", desc := "(I)V" } : Jvm.MethodName)) ∈ wNest := wNest_in (tb_6 (List.mem_of_getElem? (i := 202) rfl)) rfl
theorem wm_6_203 : (Jvm.Cond.instanceMethod ({ cls := "GridmenderModel$Straight", name := "takeOff", desc := "(I)V" } : Jvm.MethodName)) ∈ wAll := wAll_in (tb_6 (List.mem_of_getElem? (i := 203) rfl)) rfl
theorem wm_6_204 : (Jvm.Cond.code ({ cls := "GridmenderModel$Straight", name := "takeOff", desc := "(I)V" } : Jvm.MethodName) prog_12_method_6_code (5 : Nat) (Option.none : Option Jvm.ClassFile.FieldType)) ∈ wAll := wAll_in (tb_6 (List.mem_of_getElem? (i := 204) rfl)) rfl
theorem wm_6_205 : (Jvm.Cond.methodLink "GridmenderModel$Straight" (94 : Nat) ({ cls := "java/lang/Math", name := "floorDiv", desc := "(JJ)J" } : Jvm.MethodName)) ∈ wAll := wAll_in (tb_6 (List.mem_of_getElem? (i := 205) rfl)) rfl
theorem wm_6_206 : (Jvm.Cond.methodLink "GridmenderModel$Straight" (98 : Nat) ({ cls := "GridmenderModel$Grid", name := "addRow", desc := "(IIJ)V" } : Jvm.MethodName)) ∈ wAll := wAll_in (tb_6 (List.mem_of_getElem? (i := 206) rfl)) rfl
theorem wm_6_207 : (Jvm.Cond.methodLink "GridmenderModel$Straight" (102 : Nat) ({ cls := "GridmenderModel$Straight", name := "look", desc := "()V" } : Jvm.MethodName)) ∈ wAll := wAll_in (tb_6 (List.mem_of_getElem? (i := 207) rfl)) rfl
theorem wn_6_208 : (Jvm.Cond.privateMethod ({ cls := "GridmenderModel$Straight", name := "look", desc := "()V" } : Jvm.MethodName)) ∈ wNest := wNest_in (tb_6 (List.mem_of_getElem? (i := 208) rfl)) rfl
theorem wm_6_209 : (Jvm.Cond.instanceMethod ({ cls := "GridmenderModel$Straight", name := "look", desc := "()V" } : Jvm.MethodName)) ∈ wAll := wAll_in (tb_6 (List.mem_of_getElem? (i := 209) rfl)) rfl
theorem wm_6_210 : (Jvm.Cond.code ({ cls := "GridmenderModel$Straight", name := "look", desc := "()V" } : Jvm.MethodName) prog_12_method_5_code (1 : Nat) (Option.none : Option Jvm.ClassFile.FieldType)) ∈ wAll := wAll_in (tb_6 (List.mem_of_getElem? (i := 210) rfl)) rfl
theorem wm_6_211 : (Jvm.Cond.methodLink "GridmenderModel$Straight" (91 : Nat) ({ cls := "GridmenderModel$Grid", name := "isGreat", desc := "()Z" } : Jvm.MethodName)) ∈ wAll := wAll_in (tb_6 (List.mem_of_getElem? (i := 211) rfl)) rfl
theorem wm_6_212 : (Jvm.Cond.methodLink "GridmenderModel$Straight" (105 : Nat) ({ cls := "GridmenderModel$Grid", name := "addColumn", desc := "(IIJ)V" } : Jvm.MethodName)) ∈ wAll := wAll_in (tb_6 (List.mem_of_getElem? (i := 212) rfl)) rfl
theorem wm_6_213 : (Jvm.Cond.methodLink "GridmenderModel$Straight" (75 : Nat) ({ cls := "GridmenderModel$Straight", name := "isAlone", desc := "(I)Z" } : Jvm.MethodName)) ∈ wAll := wAll_in (tb_6 (List.mem_of_getElem? (i := 213) rfl)) rfl
theorem wn_6_214 : (Jvm.Cond.privateMethod ({ cls := "GridmenderModel$Straight", name := "isAlone", desc := "(I)Z" } : Jvm.MethodName)) ∈ wNest := wNest_in (tb_6 (List.mem_of_getElem? (i := 214) rfl)) rfl
theorem wm_6_215 : (Jvm.Cond.instanceMethod ({ cls := "GridmenderModel$Straight", name := "isAlone", desc := "(I)Z" } : Jvm.MethodName)) ∈ wAll := wAll_in (tb_6 (List.mem_of_getElem? (i := 215) rfl)) rfl
theorem wm_6_216 : (Jvm.Cond.code ({ cls := "GridmenderModel$Straight", name := "isAlone", desc := "(I)Z" } : Jvm.MethodName) prog_12_method_7_code (3 : Nat) (Option.some Jvm.ClassFile.FieldType.boolean)) ∈ wAll := wAll_in (tb_6 (List.mem_of_getElem? (i := 216) rfl)) rfl
theorem wm_6_217 : (Jvm.Cond.methodLink "GridmenderModel$Straight" (78 : Nat) ({ cls := "GridmenderModel$Straight", name := "isDividing", desc := "(I)Z" } : Jvm.MethodName)) ∈ wAll := wAll_in (tb_6 (List.mem_of_getElem? (i := 217) rfl)) rfl
theorem wn_6_218 : (Jvm.Cond.privateMethod ({ cls := "GridmenderModel$Straight", name := "isDividing", desc := "(I)Z" } : Jvm.MethodName)) ∈ wNest := wNest_in (tb_6 (List.mem_of_getElem? (i := 218) rfl)) rfl
theorem wm_6_219 : (Jvm.Cond.instanceMethod ({ cls := "GridmenderModel$Straight", name := "isDividing", desc := "(I)Z" } : Jvm.MethodName)) ∈ wAll := wAll_in (tb_6 (List.mem_of_getElem? (i := 219) rfl)) rfl
theorem wm_6_220 : (Jvm.Cond.code ({ cls := "GridmenderModel$Straight", name := "isDividing", desc := "(I)Z" } : Jvm.MethodName) prog_12_method_8_code (4 : Nat) (Option.some Jvm.ClassFile.FieldType.boolean)) ∈ wAll := wAll_in (tb_6 (List.mem_of_getElem? (i := 220) rfl)) rfl
theorem wm_6_221 : (Jvm.Cond.fieldLink "GridmenderModel$Straight" (22 : Nat) "GridmenderModel$Straight" "w" "LGridmenderModel$Grid;") ∈ wAll := wAll_in (tb_6 (List.mem_of_getElem? (i := 221) rfl)) rfl
theorem wm_6_222 : (Jvm.Cond.fieldLink "GridmenderModel" (181 : Nat) "GridmenderModel$Straight" "w" "LGridmenderModel$Grid;") ∈ wAll := wAll_in (tb_6 (List.mem_of_getElem? (i := 222) rfl)) rfl
theorem wm_6_223 : (Jvm.Cond.fieldLink "GridmenderModel$Straight" (33 : Nat) "GridmenderModel$Straight" "left" "LGridmenderModel$Grid;") ∈ wAll := wAll_in (tb_6 (List.mem_of_getElem? (i := 223) rfl)) rfl
theorem wm_6_224 : (Jvm.Cond.fieldLink "GridmenderModel" (182 : Nat) "GridmenderModel$Straight" "left" "LGridmenderModel$Grid;") ∈ wAll := wAll_in (tb_6 (List.mem_of_getElem? (i := 224) rfl)) rfl
theorem wm_6_225 : (Jvm.Cond.fieldLink "GridmenderModel$Straight" (39 : Nat) "GridmenderModel$Straight" "right" "LGridmenderModel$Grid;") ∈ wAll := wAll_in (tb_6 (List.mem_of_getElem? (i := 225) rfl)) rfl
theorem wm_6_226 : (Jvm.Cond.fieldLink "GridmenderModel" (185 : Nat) "GridmenderModel$Straight" "right" "LGridmenderModel$Grid;") ∈ wAll := wAll_in (tb_6 (List.mem_of_getElem? (i := 226) rfl)) rfl
theorem wm_6_227 : (Jvm.Cond.fieldLink "GridmenderModel$Straight" (7 : Nat) "GridmenderModel$Straight" "leftSide" "I") ∈ wAll := wAll_in (tb_6 (List.mem_of_getElem? (i := 227) rfl)) rfl
theorem wm_6_228 : (Jvm.Cond.fieldLink "GridmenderModel" (255 : Nat) "GridmenderModel$Straight" "leftSide" "I") ∈ wAll := wAll_in (tb_6 (List.mem_of_getElem? (i := 228) rfl)) rfl
theorem wm_6_229 : (Jvm.Cond.fieldLink "GridmenderModel$Straight" (13 : Nat) "GridmenderModel$Straight" "rightSide" "I") ∈ wAll := wAll_in (tb_6 (List.mem_of_getElem? (i := 229) rfl)) rfl
theorem wm_6_230 : (Jvm.Cond.fieldLink "GridmenderModel" (258 : Nat) "GridmenderModel$Straight" "rightSide" "I") ∈ wAll := wAll_in (tb_6 (List.mem_of_getElem? (i := 230) rfl)) rfl
theorem wm_6_231 : (Jvm.Cond.fieldLink "GridmenderModel$Straight" (46 : Nat) "GridmenderModel$Straight" "rank" "I") ∈ wAll := wAll_in (tb_6 (List.mem_of_getElem? (i := 231) rfl)) rfl
theorem wm_6_232 : (Jvm.Cond.fieldLink "GridmenderModel" (192 : Nat) "GridmenderModel$Straight" "rank" "I") ∈ wAll := wAll_in (tb_6 (List.mem_of_getElem? (i := 232) rfl)) rfl
theorem wm_6_233 : (Jvm.Cond.fieldLink "GridmenderModel$Straight" (55 : Nat) "GridmenderModel$Straight" "isGreat" "Z") ∈ wAll := wAll_in (tb_6 (List.mem_of_getElem? (i := 233) rfl)) rfl
theorem wm_6_234 : (Jvm.Cond.fieldLink "GridmenderModel" (180 : Nat) "GridmenderModel$Straight" "isGreat" "Z") ∈ wAll := wAll_in (tb_6 (List.mem_of_getElem? (i := 234) rfl)) rfl
theorem wm_7_9 : (Jvm.Cond.superclass "GridmenderModel$Straight" "java/lang/Object") ∈ wAll := wAll_in (tb_7 (List.mem_of_getElem? (i := 9) rfl)) rfl
theorem wm_7_10 : (Jvm.Cond.methodLink "GridmenderLaw" (194 : Nat) ({ cls := "GridmenderModel", name := "solve", desc := "(IIII)I" } : Jvm.MethodName)) ∈ wAll := wAll_in (tb_7 (List.mem_of_getElem? (i := 10) rfl)) rfl
theorem wm_7_11 : (Jvm.Cond.instanceMethod ({ cls := "GridmenderModel", name := "solve", desc := "(IIII)I" } : Jvm.MethodName)) ∈ wAll := wAll_in (tb_7 (List.mem_of_getElem? (i := 11) rfl)) rfl
theorem wm_7_12 : (Jvm.Cond.selects "GridmenderModel" ({ cls := "GridmenderModel", name := "solve", desc := "(IIII)I" } : Jvm.MethodName) ({ cls := "GridmenderModel", name := "solve", desc := "(IIII)I" } : Jvm.MethodName)) ∈ wAll := wAll_in (tb_7 (List.mem_of_getElem? (i := 12) rfl)) rfl
theorem wm_7_13 : (Jvm.Cond.code ({ cls := "GridmenderModel", name := "solve", desc := "(IIII)I" } : Jvm.MethodName) prog_9_method_37_code (10 : Nat) (Option.some Jvm.ClassFile.FieldType.int)) ∈ wAll := wAll_in (tb_7 (List.mem_of_getElem? (i := 13) rfl)) rfl
theorem wm_7_14 : (Jvm.Cond.methodLink "GridmenderModel" (195 : Nat) ({ cls := "GridmenderModel", name := "column", desc := "(II)LGridmenderModel$Grid;" } : Jvm.MethodName)) ∈ wAll := wAll_in (tb_7 (List.mem_of_getElem? (i := 14) rfl)) rfl
theorem wn_7_15 : (Jvm.Cond.privateMethod ({ cls := "GridmenderModel", name := "column", desc := "(II)LGridmenderModel$Grid;" } : Jvm.MethodName)) ∈ wNest := wNest_in (tb_7 (List.mem_of_getElem? (i := 15) rfl)) rfl
theorem wm_7_16 : (Jvm.Cond.instanceMethod ({ cls := "GridmenderModel", name := "column", desc := "(II)LGridmenderModel$Grid;" } : Jvm.MethodName)) ∈ wAll := wAll_in (tb_7 (List.mem_of_getElem? (i := 16) rfl)) rfl
theorem wm_7_17 : (Jvm.Cond.code ({ cls := "GridmenderModel", name := "column", desc := "(II)LGridmenderModel$Grid;" } : Jvm.MethodName) prog_9_method_35_code (5 : Nat) (Option.some (Jvm.ClassFile.FieldType.object "GridmenderModel$Grid"))) ∈ wAll := wAll_in (tb_7 (List.mem_of_getElem? (i := 17) rfl)) rfl
theorem wm_7_18 : (Jvm.Cond.methodLink "GridmenderModel" (199 : Nat) ({ cls := "GridmenderModel", name := "goes", desc := "(LGridmenderModel$Straight;LGridmenderModel$Grid;)Z" } : Jvm.MethodName)) ∈ wAll := wAll_in (tb_7 (List.mem_of_getElem? (i := 18) rfl)) rfl
theorem wm_7_19 : (Jvm.Cond.static ({ cls := "GridmenderModel", name := "goes", desc := "(LGridmenderModel$Straight;LGridmenderModel$Grid;)Z" } : Jvm.MethodName)) ∈ wAll := wAll_in (tb_7 (List.mem_of_getElem? (i := 19) rfl)) rfl
theorem wm_7_20 : (Jvm.Cond.code ({ cls := "GridmenderModel", name := "goes", desc := "(LGridmenderModel$Straight;LGridmenderModel$Grid;)Z" } : Jvm.MethodName) prog_9_method_36_code (3 : Nat) (Option.some Jvm.ClassFile.FieldType.boolean)) ∈ wAll := wAll_in (tb_7 (List.mem_of_getElem? (i := 20) rfl)) rfl
theorem wm_7_21 : (Jvm.Cond.methodLink "GridmenderModel" (203 : Nat) ({ cls := "GridmenderModel$Grid", name := "isGreat", desc := "()Z" } : Jvm.MethodName)) ∈ wAll := wAll_in (tb_7 (List.mem_of_getElem? (i := 21) rfl)) rfl
theorem wm_7_22 : (Jvm.Cond.methodLink "GridmenderLaw" (201 : Nat) ({ cls := "GridmenderModel", name := "shape", desc := "(IZ)I" } : Jvm.MethodName)) ∈ wAll := wAll_in (tb_7 (List.mem_of_getElem? (i := 22) rfl)) rfl
theorem wm_7_23 : (Jvm.Cond.instanceMethod ({ cls := "GridmenderModel", name := "shape", desc := "(IZ)I" } : Jvm.MethodName)) ∈ wAll := wAll_in (tb_7 (List.mem_of_getElem? (i := 23) rfl)) rfl
theorem wm_7_24 : (Jvm.Cond.selects "GridmenderModel" ({ cls := "GridmenderModel", name := "shape", desc := "(IZ)I" } : Jvm.MethodName) ({ cls := "GridmenderModel", name := "shape", desc := "(IZ)I" } : Jvm.MethodName)) ∈ wAll := wAll_in (tb_7 (List.mem_of_getElem? (i := 24) rfl)) rfl
theorem wm_7_25 : (Jvm.Cond.code ({ cls := "GridmenderModel", name := "shape", desc := "(IZ)I" } : Jvm.MethodName) prog_9_method_38_code (3 : Nat) (Option.some Jvm.ClassFile.FieldType.int)) ∈ wAll := wAll_in (tb_7 (List.mem_of_getElem? (i := 25) rfl)) rfl
theorem wm_7_26 : (Jvm.Cond.methodLink "GridmenderLaw" (204 : Nat) ({ cls := "GridmenderModel", name := "at", desc := "(III)I" } : Jvm.MethodName)) ∈ wAll := wAll_in (tb_7 (List.mem_of_getElem? (i := 26) rfl)) rfl
theorem wm_7_27 : (Jvm.Cond.instanceMethod ({ cls := "GridmenderModel", name := "at", desc := "(III)I" } : Jvm.MethodName)) ∈ wAll := wAll_in (tb_7 (List.mem_of_getElem? (i := 27) rfl)) rfl
theorem wm_7_28 : (Jvm.Cond.selects "GridmenderModel" ({ cls := "GridmenderModel", name := "at", desc := "(III)I" } : Jvm.MethodName) ({ cls := "GridmenderModel", name := "at", desc := "(III)I" } : Jvm.MethodName)) ∈ wAll := wAll_in (tb_7 (List.mem_of_getElem? (i := 28) rfl)) rfl
theorem wm_7_29 : (Jvm.Cond.code ({ cls := "GridmenderModel", name := "at", desc := "(III)I" } : Jvm.MethodName) prog_9_method_39_code (4 : Nat) (Option.some Jvm.ClassFile.FieldType.int)) ∈ wAll := wAll_in (tb_7 (List.mem_of_getElem? (i := 29) rfl)) rfl
theorem wm_7_30 : (Jvm.Cond.methodLink "GridmenderLaw" (207 : Nat) ({ cls := "GridmenderModel", name := "text", desc := "(I)Ljava/lang/String;" } : Jvm.MethodName)) ∈ wAll := wAll_in (tb_7 (List.mem_of_getElem? (i := 30) rfl)) rfl
theorem wm_7_31 : (Jvm.Cond.instanceMethod ({ cls := "GridmenderModel", name := "text", desc := "(I)Ljava/lang/String;" } : Jvm.MethodName)) ∈ wAll := wAll_in (tb_7 (List.mem_of_getElem? (i := 31) rfl)) rfl
theorem wm_7_32 : (Jvm.Cond.selects "GridmenderModel" ({ cls := "GridmenderModel", name := "text", desc := "(I)Ljava/lang/String;" } : Jvm.MethodName) ({ cls := "GridmenderModel", name := "text", desc := "(I)Ljava/lang/String;" } : Jvm.MethodName)) ∈ wAll := wAll_in (tb_7 (List.mem_of_getElem? (i := 32) rfl)) rfl
theorem wm_7_33 : (Jvm.Cond.code ({ cls := "GridmenderModel", name := "text", desc := "(I)Ljava/lang/String;" } : Jvm.MethodName) prog_9_method_40_code (6 : Nat) (Option.some (Jvm.ClassFile.FieldType.object "java/lang/String"))) ∈ wAll := wAll_in (tb_7 (List.mem_of_getElem? (i := 33) rfl)) rfl
theorem wt_7_34 : (Jvm.Cond.stringRef "GridmenderModel" (205 : Nat) "") ∈ lw_tbl := tb_7 (List.mem_of_getElem? (i := 34) rfl)
theorem wm_7_35 : (Jvm.Cond.classLink "GridmenderModel" (207 : Nat) "java/lang/StringBuilder") ∈ wAll := wAll_in (tb_7 (List.mem_of_getElem? (i := 35) rfl)) rfl
theorem wm_7_36 : (Jvm.Cond.methodLink "GridmenderModel" (209 : Nat) ({ cls := "java/lang/StringBuilder", name := "<init>", desc := "()V" } : Jvm.MethodName)) ∈ wAll := wAll_in (tb_7 (List.mem_of_getElem? (i := 36) rfl)) rfl
theorem wt_7_37 : (Jvm.Cond.stringRef "GridmenderModel" (210 : Nat) " ") ∈ lw_tbl := tb_7 (List.mem_of_getElem? (i := 37) rfl)
theorem wt_7_38 : (Jvm.Cond.stringRef "GridmenderModel" (212 : Nat) "/") ∈ lw_tbl := tb_7 (List.mem_of_getElem? (i := 38) rfl)
theorem wm_7_39 : (Jvm.Cond.methodLink "GridmenderModel" (214 : Nat) ({ cls := "java/lang/StringBuilder", name := "append", desc := "(Ljava/lang/String;)Ljava/lang/StringBuilder;" } : Jvm.MethodName)) ∈ wAll := wAll_in (tb_7 (List.mem_of_getElem? (i := 39) rfl)) rfl
theorem wm_7_40 : (Jvm.Cond.methodLink "GridmenderModel" (218 : Nat) ({ cls := "java/lang/StringBuilder", name := "append", desc := "(J)Ljava/lang/StringBuilder;" } : Jvm.MethodName)) ∈ wAll := wAll_in (tb_7 (List.mem_of_getElem? (i := 40) rfl)) rfl
theorem wm_7_41 : (Jvm.Cond.instanceMethod ({ cls := "java/lang/StringBuilder", name := "append", desc := "(J)Ljava/lang/StringBuilder;" } : Jvm.MethodName)) ∈ wAll := wAll_in (tb_7 (List.mem_of_getElem? (i := 41) rfl)) rfl
theorem wm_7_42 : (Jvm.Cond.selects "java/lang/StringBuilder" ({ cls := "java/lang/StringBuilder", name := "append", desc := "(J)Ljava/lang/StringBuilder;" } : Jvm.MethodName) ({ cls := "java/lang/StringBuilder", name := "append", desc := "(J)Ljava/lang/StringBuilder;" } : Jvm.MethodName)) ∈ wAll := wAll_in (tb_7 (List.mem_of_getElem? (i := 42) rfl)) rfl
theorem wm_7_43 : (Jvm.Cond.code ({ cls := "java/lang/StringBuilder", name := "append", desc := "(J)Ljava/lang/StringBuilder;" } : Jvm.MethodName) prog_24_method_16_code (3 : Nat) (Option.some (Jvm.ClassFile.FieldType.object "java/lang/StringBuilder"))) ∈ wAll := wAll_in (tb_7 (List.mem_of_getElem? (i := 43) rfl)) rfl
theorem wm_7_44 : (Jvm.Cond.methodLink "java/lang/StringBuilder" (56 : Nat) ({ cls := "java/lang/AbstractStringBuilder", name := "append", desc := "(J)Ljava/lang/AbstractStringBuilder;" } : Jvm.MethodName)) ∈ wAll := wAll_in (tb_7 (List.mem_of_getElem? (i := 44) rfl)) rfl
theorem wm_7_45 : (Jvm.Cond.instanceMethod ({ cls := "java/lang/AbstractStringBuilder", name := "append", desc := "(J)Ljava/lang/AbstractStringBuilder;" } : Jvm.MethodName)) ∈ wAll := wAll_in (tb_7 (List.mem_of_getElem? (i := 45) rfl)) rfl
theorem wm_7_46 : (Jvm.Cond.code ({ cls := "java/lang/AbstractStringBuilder", name := "append", desc := "(J)Ljava/lang/AbstractStringBuilder;" } : Jvm.MethodName) prog_13_method_33_code (5 : Nat) (Option.some (Jvm.ClassFile.FieldType.object "java/lang/AbstractStringBuilder"))) ∈ wAll := wAll_in (tb_7 (List.mem_of_getElem? (i := 46) rfl)) rfl
theorem wm_7_47 : (Jvm.Cond.methodLink "java/lang/AbstractStringBuilder" (254 : Nat) ({ cls := "java/lang/Long", name := "stringSize", desc := "(J)I" } : Jvm.MethodName)) ∈ wAll := wAll_in (tb_7 (List.mem_of_getElem? (i := 47) rfl)) rfl
theorem wm_7_48 : (Jvm.Cond.static ({ cls := "java/lang/Long", name := "stringSize", desc := "(J)I" } : Jvm.MethodName)) ∈ wAll := wAll_in (tb_7 (List.mem_of_getElem? (i := 48) rfl)) rfl
theorem wm_7_49 : (Jvm.Cond.code ({ cls := "java/lang/Long", name := "stringSize", desc := "(J)I" } : Jvm.MethodName) prog_20_method_15_code (6 : Nat) (Option.some Jvm.ClassFile.FieldType.int)) ∈ wAll := wAll_in (tb_7 (List.mem_of_getElem? (i := 49) rfl)) rfl
theorem wm_7_50 : (Jvm.Cond.constantLong "java/lang/Long" (140 : Nat) (-10 : Int64)) ∈ wAll := wAll_in (tb_7 (List.mem_of_getElem? (i := 50) rfl)) rfl
theorem wm_7_51 : (Jvm.Cond.constantLong "java/lang/Long" (53 : Nat) (10 : Int64)) ∈ wAll := wAll_in (tb_7 (List.mem_of_getElem? (i := 51) rfl)) rfl
theorem wm_7_52 : (Jvm.Cond.methodLink "java/lang/AbstractStringBuilder" (259 : Nat) ({ cls := "java/lang/Long", name := "getChars", desc := "(JI[B)I" } : Jvm.MethodName)) ∈ wAll := wAll_in (tb_7 (List.mem_of_getElem? (i := 52) rfl)) rfl
theorem wm_7_53 : (Jvm.Cond.static ({ cls := "java/lang/Long", name := "getChars", desc := "(JI[B)I" } : Jvm.MethodName)) ∈ wAll := wAll_in (tb_7 (List.mem_of_getElem? (i := 53) rfl)) rfl
theorem wm_7_54 : (Jvm.Cond.code ({ cls := "java/lang/Long", name := "getChars", desc := "(JI[B)I" } : Jvm.MethodName) prog_20_method_14_code (11 : Nat) (Option.some Jvm.ClassFile.FieldType.int)) ∈ wAll := wAll_in (tb_7 (List.mem_of_getElem? (i := 54) rfl)) rfl
theorem wm_7_55 : (Jvm.Cond.constantLong "java/lang/Long" (129 : Nat) (-2147483648 : Int64)) ∈ wAll := wAll_in (tb_7 (List.mem_of_getElem? (i := 55) rfl)) rfl
theorem wm_7_56 : (Jvm.Cond.constantLong "java/lang/Long" (131 : Nat) (100 : Int64)) ∈ wAll := wAll_in (tb_7 (List.mem_of_getElem? (i := 56) rfl)) rfl
theorem wm_7_57 : (Jvm.Cond.fieldLink "java/lang/Long" (133 : Nat) "java/lang/Integer" "DigitOnes" "[B") ∈ wAll := wAll_in (tb_7 (List.mem_of_getElem? (i := 57) rfl)) rfl
theorem wm_7_58 : (Jvm.Cond.fieldLink "java/lang/Long" (137 : Nat) "java/lang/Integer" "DigitTens" "[B") ∈ wAll := wAll_in (tb_7 (List.mem_of_getElem? (i := 58) rfl)) rfl
theorem wm_7_59 : (Jvm.Cond.methodLink "java/lang/AbstractStringBuilder" (262 : Nat) ({ cls := "java/lang/StringUTF16", name := "getChars", desc := "(JII[B)I" } : Jvm.MethodName)) ∈ wAll := wAll_in (tb_7 (List.mem_of_getElem? (i := 59) rfl)) rfl
theorem wm_7_60 : (Jvm.Cond.static ({ cls := "java/lang/StringUTF16", name := "getChars", desc := "(JII[B)I" } : Jvm.MethodName)) ∈ wAll := wAll_in (tb_7 (List.mem_of_getElem? (i := 60) rfl)) rfl
theorem wm_7_61 : (Jvm.Cond.code ({ cls := "java/lang/StringUTF16", name := "getChars", desc := "(JII[B)I" } : Jvm.MethodName) prog_26_method_78_code (6 : Nat) (Option.some Jvm.ClassFile.FieldType.int)) ∈ wAll := wAll_in (tb_7 (List.mem_of_getElem? (i := 61) rfl)) rfl
theorem wm_7_62 : (Jvm.Cond.methodLink "java/lang/StringUTF16" (396 : Nat) ({ cls := "java/lang/StringUTF16", name := "getChars", desc := "(JI[B)I" } : Jvm.MethodName)) ∈ wAll := wAll_in (tb_7 (List.mem_of_getElem? (i := 62) rfl)) rfl
theorem wm_7_63 : (Jvm.Cond.static ({ cls := "java/lang/StringUTF16", name := "getChars", desc := "(JI[B)I" } : Jvm.MethodName)) ∈ wAll := wAll_in (tb_7 (List.mem_of_getElem? (i := 63) rfl)) rfl
theorem wm_7_64 : (Jvm.Cond.code ({ cls := "java/lang/StringUTF16", name := "getChars", desc := "(JI[B)I" } : Jvm.MethodName) prog_26_method_90_code (11 : Nat) (Option.some Jvm.ClassFile.FieldType.int)) ∈ wAll := wAll_in (tb_7 (List.mem_of_getElem? (i := 64) rfl)) rfl
theorem wm_7_65 : (Jvm.Cond.constantLong "java/lang/StringUTF16" (410 : Nat) (-2147483648 : Int64)) ∈ wAll := wAll_in (tb_7 (List.mem_of_getElem? (i := 65) rfl)) rfl
theorem wm_7_66 : (Jvm.Cond.constantLong "java/lang/StringUTF16" (412 : Nat) (100 : Int64)) ∈ wAll := wAll_in (tb_7 (List.mem_of_getElem? (i := 66) rfl)) rfl
theorem wm_7_67 : (Jvm.Cond.methodLink "GridmenderModel" (221 : Nat) ({ cls := "java/lang/StringBuilder", name := "toString", desc := "()Ljava/lang/String;" } : Jvm.MethodName)) ∈ wAll := wAll_in (tb_7 (List.mem_of_getElem? (i := 67) rfl)) rfl
theorem wm_7_68 : (Jvm.Cond.methodLink "GridmenderLaw" (210 : Nat) ({ cls := "GridmenderModel", name := "isSame", desc := "(II)Z" } : Jvm.MethodName)) ∈ wAll := wAll_in (tb_7 (List.mem_of_getElem? (i := 68) rfl)) rfl
theorem wm_7_69 : (Jvm.Cond.instanceMethod ({ cls := "GridmenderModel", name := "isSame", desc := "(II)Z" } : Jvm.MethodName)) ∈ wAll := wAll_in (tb_7 (List.mem_of_getElem? (i := 69) rfl)) rfl
theorem wm_7_70 : (Jvm.Cond.selects "GridmenderModel" ({ cls := "GridmenderModel", name := "isSame", desc := "(II)Z" } : Jvm.MethodName) ({ cls := "GridmenderModel", name := "isSame", desc := "(II)Z" } : Jvm.MethodName)) ∈ wAll := wAll_in (tb_7 (List.mem_of_getElem? (i := 70) rfl)) rfl
theorem wm_7_71 : (Jvm.Cond.code ({ cls := "GridmenderModel", name := "isSame", desc := "(II)Z" } : Jvm.MethodName) prog_9_method_41_code (3 : Nat) (Option.some Jvm.ClassFile.FieldType.boolean)) ∈ wAll := wAll_in (tb_7 (List.mem_of_getElem? (i := 71) rfl)) rfl
theorem wm_7_72 : (Jvm.Cond.methodLink "GridmenderLaw" (213 : Nat) ({ cls := "GridmenderModel", name := "determinant", desc := "(II)I" } : Jvm.MethodName)) ∈ wAll := wAll_in (tb_7 (List.mem_of_getElem? (i := 72) rfl)) rfl
theorem wm_7_73 : (Jvm.Cond.instanceMethod ({ cls := "GridmenderModel", name := "determinant", desc := "(II)I" } : Jvm.MethodName)) ∈ wAll := wAll_in (tb_7 (List.mem_of_getElem? (i := 73) rfl)) rfl
theorem wm_7_74 : (Jvm.Cond.selects "GridmenderModel" ({ cls := "GridmenderModel", name := "determinant", desc := "(II)I" } : Jvm.MethodName) ({ cls := "GridmenderModel", name := "determinant", desc := "(II)I" } : Jvm.MethodName)) ∈ wAll := wAll_in (tb_7 (List.mem_of_getElem? (i := 74) rfl)) rfl
theorem wm_7_75 : (Jvm.Cond.code ({ cls := "GridmenderModel", name := "determinant", desc := "(II)I" } : Jvm.MethodName) prog_9_method_44_code (8 : Nat) (Option.some Jvm.ClassFile.FieldType.int)) ∈ wAll := wAll_in (tb_7 (List.mem_of_getElem? (i := 75) rfl)) rfl
theorem wm_7_76 : (Jvm.Cond.methodLink "GridmenderModel" (237 : Nat) ({ cls := "GridmenderModel", name := "determinantOf", desc := "(LGridmenderModel$Grid;)J" } : Jvm.MethodName)) ∈ wAll := wAll_in (tb_7 (List.mem_of_getElem? (i := 76) rfl)) rfl
theorem wm_7_77 : (Jvm.Cond.static ({ cls := "GridmenderModel", name := "determinantOf", desc := "(LGridmenderModel$Grid;)J" } : Jvm.MethodName)) ∈ wAll := wAll_in (tb_7 (List.mem_of_getElem? (i := 77) rfl)) rfl
theorem wm_7_78 : (Jvm.Cond.code ({ cls := "GridmenderModel", name := "determinantOf", desc := "(LGridmenderModel$Grid;)J" } : Jvm.MethodName) prog_9_method_42_code (1 : Nat) (Option.some Jvm.ClassFile.FieldType.long)) ∈ wAll := wAll_in (tb_7 (List.mem_of_getElem? (i := 78) rfl)) rfl
theorem wm_7_79 : (Jvm.Cond.methodLink "GridmenderModel" (225 : Nat) ({ cls := "GridmenderModel$Grid", name := "minor", desc := "(II)J" } : Jvm.MethodName)) ∈ wAll := wAll_in (tb_7 (List.mem_of_getElem? (i := 79) rfl)) rfl
theorem wm_7_80 : (Jvm.Cond.instanceMethod ({ cls := "GridmenderModel$Grid", name := "minor", desc := "(II)J" } : Jvm.MethodName)) ∈ wAll := wAll_in (tb_7 (List.mem_of_getElem? (i := 80) rfl)) rfl
theorem wm_7_81 : (Jvm.Cond.selects "GridmenderModel$Grid" ({ cls := "GridmenderModel$Grid", name := "minor", desc := "(II)J" } : Jvm.MethodName) ({ cls := "GridmenderModel$Grid", name := "minor", desc := "(II)J" } : Jvm.MethodName)) ∈ wAll := wAll_in (tb_7 (List.mem_of_getElem? (i := 81) rfl)) rfl
theorem wm_7_82 : (Jvm.Cond.code ({ cls := "GridmenderModel$Grid", name := "minor", desc := "(II)J" } : Jvm.MethodName) prog_10_method_17_code (9 : Nat) (Option.some Jvm.ClassFile.FieldType.long)) ∈ wAll := wAll_in (tb_7 (List.mem_of_getElem? (i := 82) rfl)) rfl
theorem wm_7_83 : (Jvm.Cond.methodLink "GridmenderModel$Grid" (41 : Nat) ({ cls := "java/lang/Integer", name := "numberOfTrailingZeros", desc := "(I)I" } : Jvm.MethodName)) ∈ wAll := wAll_in (tb_7 (List.mem_of_getElem? (i := 83) rfl)) rfl
theorem wm_7_84 : (Jvm.Cond.static ({ cls := "java/lang/Integer", name := "numberOfTrailingZeros", desc := "(I)I" } : Jvm.MethodName)) ∈ wAll := wAll_in (tb_7 (List.mem_of_getElem? (i := 84) rfl)) rfl
theorem wm_7_85 : (Jvm.Cond.code ({ cls := "java/lang/Integer", name := "numberOfTrailingZeros", desc := "(I)I" } : Jvm.MethodName) prog_19_method_48_code (2 : Nat) (Option.some Jvm.ClassFile.FieldType.int)) ∈ wAll := wAll_in (tb_7 (List.mem_of_getElem? (i := 85) rfl)) rfl
theorem wm_7_86 : (Jvm.Cond.constant "java/lang/Integer" (264 : Nat) (65536 : Int32)) ∈ wAll := wAll_in (tb_7 (List.mem_of_getElem? (i := 86) rfl)) rfl
theorem wm_7_87 : (Jvm.Cond.methodLink "GridmenderModel$Grid" (47 : Nat) ({ cls := "GridmenderModel$Grid", name := "minor", desc := "(II)J" } : Jvm.MethodName)) ∈ wAll := wAll_in (tb_7 (List.mem_of_getElem? (i := 87) rfl)) rfl
theorem wm_7_88 : (Jvm.Cond.methodLink "GridmenderModel" (233 : Nat) ({ cls := "GridmenderModel", name := "bySequences", desc := "(LGridmenderModel$Grid;II)J" } : Jvm.MethodName)) ∈ wAll := wAll_in (tb_7 (List.mem_of_getElem? (i := 88) rfl)) rfl
theorem wm_7_89 : (Jvm.Cond.static ({ cls := "GridmenderModel", name := "bySequences", desc := "(LGridmenderModel$Grid;II)J" } : Jvm.MethodName)) ∈ wAll := wAll_in (tb_7 (List.mem_of_getElem? (i := 89) rfl)) rfl
theorem wm_7_90 : (Jvm.Cond.code ({ cls := "GridmenderModel", name := "bySequences", desc := "(LGridmenderModel$Grid;II)J" } : Jvm.MethodName) prog_9_method_43_code (7 : Nat) (Option.some Jvm.ClassFile.FieldType.long)) ∈ wAll := wAll_in (tb_7 (List.mem_of_getElem? (i := 90) rfl)) rfl
theorem wm_7_91 : (Jvm.Cond.methodLink "GridmenderModel" (228 : Nat) ({ cls := "java/lang/Integer", name := "bitCount", desc := "(I)I" } : Jvm.MethodName)) ∈ wAll := wAll_in (tb_7 (List.mem_of_getElem? (i := 91) rfl)) rfl
theorem wm_7_92 : (Jvm.Cond.methodLink "GridmenderLaw" (216 : Nat) ({ cls := "GridmenderModel", name := "minor", desc := "(III)I" } : Jvm.MethodName)) ∈ wAll := wAll_in (tb_7 (List.mem_of_getElem? (i := 92) rfl)) rfl
theorem wm_7_93 : (Jvm.Cond.instanceMethod ({ cls := "GridmenderModel", name := "minor", desc := "(III)I" } : Jvm.MethodName)) ∈ wAll := wAll_in (tb_7 (List.mem_of_getElem? (i := 93) rfl)) rfl
theorem wm_7_94 : (Jvm.Cond.selects "GridmenderModel" ({ cls := "GridmenderModel", name := "minor", desc := "(III)I" } : Jvm.MethodName) ({ cls := "GridmenderModel", name := "minor", desc := "(III)I" } : Jvm.MethodName)) ∈ wAll := wAll_in (tb_7 (List.mem_of_getElem? (i := 94) rfl)) rfl
theorem wm_7_95 : (Jvm.Cond.code ({ cls := "GridmenderModel", name := "minor", desc := "(III)I" } : Jvm.MethodName) prog_9_method_45_code (5 : Nat) (Option.some Jvm.ClassFile.FieldType.int)) ∈ wAll := wAll_in (tb_7 (List.mem_of_getElem? (i := 95) rfl)) rfl
theorem wm_7_96 : (Jvm.Cond.methodLink "GridmenderLaw" (219 : Nat) ({ cls := "GridmenderModel", name := "divisor", desc := "(II)I" } : Jvm.MethodName)) ∈ wAll := wAll_in (tb_7 (List.mem_of_getElem? (i := 96) rfl)) rfl
theorem wm_7_97 : (Jvm.Cond.instanceMethod ({ cls := "GridmenderModel", name := "divisor", desc := "(II)I" } : Jvm.MethodName)) ∈ wAll := wAll_in (tb_7 (List.mem_of_getElem? (i := 97) rfl)) rfl
theorem wm_7_98 : (Jvm.Cond.selects "GridmenderModel" ({ cls := "GridmenderModel", name := "divisor", desc := "(II)I" } : Jvm.MethodName) ({ cls := "GridmenderModel", name := "divisor", desc := "(II)I" } : Jvm.MethodName)) ∈ wAll := wAll_in (tb_7 (List.mem_of_getElem? (i := 98) rfl)) rfl
theorem wm_7_99 : (Jvm.Cond.code ({ cls := "GridmenderModel", name := "divisor", desc := "(II)I" } : Jvm.MethodName) prog_9_method_46_code (4 : Nat) (Option.some Jvm.ClassFile.FieldType.int)) ∈ wAll := wAll_in (tb_7 (List.mem_of_getElem? (i := 99) rfl)) rfl
theorem wm_7_100 : (Jvm.Cond.methodLink "GridmenderModel" (244 : Nat) ({ cls := "java/lang/Math", name := "min", desc := "(II)I" } : Jvm.MethodName)) ∈ wAll := wAll_in (tb_7 (List.mem_of_getElem? (i := 100) rfl)) rfl
theorem wm_7_101 : (Jvm.Cond.methodLink "GridmenderModel" (248 : Nat) ({ cls := "GridmenderModel$Grid", name := "divisor", desc := "(I)J" } : Jvm.MethodName)) ∈ wAll := wAll_in (tb_7 (List.mem_of_getElem? (i := 101) rfl)) rfl
theorem wm_7_102 : (Jvm.Cond.instanceMethod ({ cls := "GridmenderModel$Grid", name := "divisor", desc := "(I)J" } : Jvm.MethodName)) ∈ wAll := wAll_in (tb_7 (List.mem_of_getElem? (i := 102) rfl)) rfl
theorem wm_7_103 : (Jvm.Cond.selects "GridmenderModel$Grid" ({ cls := "GridmenderModel$Grid", name := "divisor", desc := "(I)J" } : Jvm.MethodName) ({ cls := "GridmenderModel$Grid", name := "divisor", desc := "(I)J" } : Jvm.MethodName)) ∈ wAll := wAll_in (tb_7 (List.mem_of_getElem? (i := 103) rfl)) rfl
theorem wm_7_104 : (Jvm.Cond.code ({ cls := "GridmenderModel$Grid", name := "divisor", desc := "(I)J" } : Jvm.MethodName) prog_10_method_18_code (6 : Nat) (Option.some Jvm.ClassFile.FieldType.long)) ∈ wAll := wAll_in (tb_7 (List.mem_of_getElem? (i := 104) rfl)) rfl
theorem wm_7_105 : (Jvm.Cond.methodLink "GridmenderModel$Grid" (50 : Nat) ({ cls := "java/lang/Integer", name := "bitCount", desc := "(I)I" } : Jvm.MethodName)) ∈ wAll := wAll_in (tb_7 (List.mem_of_getElem? (i := 105) rfl)) rfl
theorem wn_7_106 : (Jvm.Cond.methodLinkNest "GridmenderModel$Grid" (53 : Nat) ({ cls := "GridmenderModel", name := "gcd", desc := "(JJ)J" } : Jvm.MethodName) "GridmenderModel") ∈ wNest := wNest_in (tb_7 (List.mem_of_getElem? (i := 106) rfl)) rfl
theorem wm_7_107 : (Jvm.Cond.static ({ cls := "GridmenderModel", name := "gcd", desc := "(JJ)J" } : Jvm.MethodName)) ∈ wAll := wAll_in (tb_7 (List.mem_of_getElem? (i := 107) rfl)) rfl
theorem wm_7_108 : (Jvm.Cond.code ({ cls := "GridmenderModel", name := "gcd", desc := "(JJ)J" } : Jvm.MethodName) prog_9_method_1_code (4 : Nat) (Option.some Jvm.ClassFile.FieldType.long)) ∈ wAll := wAll_in (tb_7 (List.mem_of_getElem? (i := 108) rfl)) rfl
theorem wm_7_109 : (Jvm.Cond.methodLink "GridmenderModel" (1 : Nat) ({ cls := "java/lang/Math", name := "abs", desc := "(J)J" } : Jvm.MethodName)) ∈ wAll := wAll_in (tb_7 (List.mem_of_getElem? (i := 109) rfl)) rfl
theorem wm_7_110 : (Jvm.Cond.methodLink "GridmenderModel" (7 : Nat) ({ cls := "GridmenderModel", name := "gcd", desc := "(JJ)J" } : Jvm.MethodName)) ∈ wAll := wAll_in (tb_7 (List.mem_of_getElem? (i := 110) rfl)) rfl
theorem wm_7_111 : (Jvm.Cond.methodLink "GridmenderLaw" (222 : Nat) ({ cls := "GridmenderModel", name := "rank", desc := "(II)I" } : Jvm.MethodName)) ∈ wAll := wAll_in (tb_7 (List.mem_of_getElem? (i := 111) rfl)) rfl
theorem wm_7_112 : (Jvm.Cond.instanceMethod ({ cls := "GridmenderModel", name := "rank", desc := "(II)I" } : Jvm.MethodName)) ∈ wAll := wAll_in (tb_7 (List.mem_of_getElem? (i := 112) rfl)) rfl
theorem wm_7_113 : (Jvm.Cond.selects "GridmenderModel" ({ cls := "GridmenderModel", name := "rank", desc := "(II)I" } : Jvm.MethodName) ({ cls := "GridmenderModel", name := "rank", desc := "(II)I" } : Jvm.MethodName)) ∈ wAll := wAll_in (tb_7 (List.mem_of_getElem? (i := 113) rfl)) rfl
theorem wm_7_114 : (Jvm.Cond.code ({ cls := "GridmenderModel", name := "rank", desc := "(II)I" } : Jvm.MethodName) prog_9_method_47_code (4 : Nat) (Option.some Jvm.ClassFile.FieldType.int)) ∈ wAll := wAll_in (tb_7 (List.mem_of_getElem? (i := 114) rfl)) rfl
theorem wm_7_115 : (Jvm.Cond.methodLink "GridmenderModel" (252 : Nat) ({ cls := "GridmenderModel$Grid", name := "rank", desc := "()I" } : Jvm.MethodName)) ∈ wAll := wAll_in (tb_7 (List.mem_of_getElem? (i := 115) rfl)) rfl
theorem wm_7_116 : (Jvm.Cond.instanceMethod ({ cls := "GridmenderModel$Grid", name := "rank", desc := "()I" } : Jvm.MethodName)) ∈ wAll := wAll_in (tb_7 (List.mem_of_getElem? (i := 116) rfl)) rfl
theorem wm_7_117 : (Jvm.Cond.selects "GridmenderModel$Grid" ({ cls := "GridmenderModel$Grid", name := "rank", desc := "()I" } : Jvm.MethodName) ({ cls := "GridmenderModel$Grid", name := "rank", desc := "()I" } : Jvm.MethodName)) ∈ wAll := wAll_in (tb_7 (List.mem_of_getElem? (i := 117) rfl)) rfl
theorem wm_7_118 : (Jvm.Cond.code ({ cls := "GridmenderModel$Grid", name := "rank", desc := "()I" } : Jvm.MethodName) prog_10_method_19_code (3 : Nat) (Option.some Jvm.ClassFile.FieldType.int)) ∈ wAll := wAll_in (tb_7 (List.mem_of_getElem? (i := 118) rfl)) rfl
theorem wm_7_119 : (Jvm.Cond.methodLink "GridmenderModel$Grid" (57 : Nat) ({ cls := "java/lang/Math", name := "min", desc := "(II)I" } : Jvm.MethodName)) ∈ wAll := wAll_in (tb_7 (List.mem_of_getElem? (i := 119) rfl)) rfl
theorem wm_7_120 : (Jvm.Cond.methodLink "GridmenderModel$Grid" (63 : Nat) ({ cls := "GridmenderModel$Grid", name := "divisor", desc := "(I)J" } : Jvm.MethodName)) ∈ wAll := wAll_in (tb_7 (List.mem_of_getElem? (i := 120) rfl)) rfl
theorem wm_7_121 : (Jvm.Cond.methodLink "GridmenderModel" (254 : Nat) ({ cls := "GridmenderModel$Stepped", name := "rank", desc := "()I" } : Jvm.MethodName)) ∈ wAll := wAll_in (tb_7 (List.mem_of_getElem? (i := 121) rfl)) rfl
theorem wm_7_122 : (Jvm.Cond.instanceMethod ({ cls := "GridmenderModel$Stepped", name := "rank", desc := "()I" } : Jvm.MethodName)) ∈ wAll := wAll_in (tb_7 (List.mem_of_getElem? (i := 122) rfl)) rfl
theorem wm_7_123 : (Jvm.Cond.selects "GridmenderModel$Stepped" ({ cls := "GridmenderModel$Stepped", name := "rank", desc := "()I" } : Jvm.MethodName) ({ cls := "GridmenderModel$Stepped", name := "rank", desc := "()I" } : Jvm.MethodName)) ∈ wAll := wAll_in (tb_7 (List.mem_of_getElem? (i := 123) rfl)) rfl
theorem wm_7_124 : (Jvm.Cond.code ({ cls := "GridmenderModel$Stepped", name := "rank", desc := "()I" } : Jvm.MethodName) prog_11_method_5_code (5 : Nat) (Option.some Jvm.ClassFile.FieldType.int)) ∈ wAll := wAll_in (tb_7 (List.mem_of_getElem? (i := 124) rfl)) rfl
theorem wm_7_125 : (Jvm.Cond.methodLink "GridmenderLaw" (225 : Nat) ({ cls := "GridmenderModel", name := "told", desc := "(IIII)I" } : Jvm.MethodName)) ∈ wAll := wAll_in (tb_7 (List.mem_of_getElem? (i := 125) rfl)) rfl
theorem wm_7_126 : (Jvm.Cond.instanceMethod ({ cls := "GridmenderModel", name := "told", desc := "(IIII)I" } : Jvm.MethodName)) ∈ wAll := wAll_in (tb_7 (List.mem_of_getElem? (i := 126) rfl)) rfl
theorem wm_7_127 : (Jvm.Cond.selects "GridmenderModel" ({ cls := "GridmenderModel", name := "told", desc := "(IIII)I" } : Jvm.MethodName) ({ cls := "GridmenderModel", name := "told", desc := "(IIII)I" } : Jvm.MethodName)) ∈ wAll := wAll_in (tb_7 (List.mem_of_getElem? (i := 127) rfl)) rfl
theorem wm_7_128 : (Jvm.Cond.code ({ cls := "GridmenderModel", name := "told", desc := "(IIII)I" } : Jvm.MethodName) prog_9_method_48_code (9 : Nat) (Option.some Jvm.ClassFile.FieldType.int)) ∈ wAll := wAll_in (tb_7 (List.mem_of_getElem? (i := 128) rfl)) rfl
theorem wm_7_129 : (Jvm.Cond.methodLink "GridmenderLaw" (228 : Nat) ({ cls := "GridmenderModel", name := "change", desc := "(II)I" } : Jvm.MethodName)) ∈ wAll := wAll_in (tb_7 (List.mem_of_getElem? (i := 129) rfl)) rfl
theorem wm_7_130 : (Jvm.Cond.instanceMethod ({ cls := "GridmenderModel", name := "change", desc := "(II)I" } : Jvm.MethodName)) ∈ wAll := wAll_in (tb_7 (List.mem_of_getElem? (i := 130) rfl)) rfl
theorem wm_7_131 : (Jvm.Cond.selects "GridmenderModel" ({ cls := "GridmenderModel", name := "change", desc := "(II)I" } : Jvm.MethodName) ({ cls := "GridmenderModel", name := "change", desc := "(II)I" } : Jvm.MethodName)) ∈ wAll := wAll_in (tb_7 (List.mem_of_getElem? (i := 131) rfl)) rfl
theorem wm_7_132 : (Jvm.Cond.code ({ cls := "GridmenderModel", name := "change", desc := "(II)I" } : Jvm.MethodName) prog_9_method_49_code (4 : Nat) (Option.some Jvm.ClassFile.FieldType.int)) ∈ wAll := wAll_in (tb_7 (List.mem_of_getElem? (i := 132) rfl)) rfl
theorem wm_7_133 : (Jvm.Cond.methodLink "GridmenderLaw" (231 : Nat) ({ cls := "GridmenderModel", name := "isSolvable", desc := "(IIII)Z" } : Jvm.MethodName)) ∈ wAll := wAll_in (tb_7 (List.mem_of_getElem? (i := 133) rfl)) rfl
theorem wm_7_134 : (Jvm.Cond.instanceMethod ({ cls := "GridmenderModel", name := "isSolvable", desc := "(IIII)Z" } : Jvm.MethodName)) ∈ wAll := wAll_in (tb_7 (List.mem_of_getElem? (i := 134) rfl)) rfl
theorem wm_7_135 : (Jvm.Cond.selects "GridmenderModel" ({ cls := "GridmenderModel", name := "isSolvable", desc := "(IIII)Z" } : Jvm.MethodName) ({ cls := "GridmenderModel", name := "isSolvable", desc := "(IIII)Z" } : Jvm.MethodName)) ∈ wAll := wAll_in (tb_7 (List.mem_of_getElem? (i := 135) rfl)) rfl
theorem wm_7_136 : (Jvm.Cond.code ({ cls := "GridmenderModel", name := "isSolvable", desc := "(IIII)Z" } : Jvm.MethodName) prog_9_method_50_code (7 : Nat) (Option.some Jvm.ClassFile.FieldType.boolean)) ∈ wAll := wAll_in (tb_7 (List.mem_of_getElem? (i := 136) rfl)) rfl
theorem wm_7_137 : (Jvm.Cond.methodLink "GridmenderModel" (261 : Nat) ({ cls := "GridmenderModel", name := "isByDivisors", desc := "(LGridmenderModel$Grid;LGridmenderModel$Grid;)Z" } : Jvm.MethodName)) ∈ wAll := wAll_in (tb_7 (List.mem_of_getElem? (i := 137) rfl)) rfl
theorem wm_7_138 : (Jvm.Cond.static ({ cls := "GridmenderModel", name := "isByDivisors", desc := "(LGridmenderModel$Grid;LGridmenderModel$Grid;)Z" } : Jvm.MethodName)) ∈ wAll := wAll_in (tb_7 (List.mem_of_getElem? (i := 138) rfl)) rfl
theorem wm_7_139 : (Jvm.Cond.code ({ cls := "GridmenderModel", name := "isByDivisors", desc := "(LGridmenderModel$Grid;LGridmenderModel$Grid;)Z" } : Jvm.MethodName) prog_9_method_51_code (5 : Nat) (Option.some Jvm.ClassFile.FieldType.boolean)) ∈ wAll := wAll_in (tb_7 (List.mem_of_getElem? (i := 139) rfl)) rfl
theorem wm_7_140 : (Jvm.Cond.methodLink "GridmenderLaw" (234 : Nat) ({ cls := "GridmenderModel", name := "restColumn", desc := "(III)I" } : Jvm.MethodName)) ∈ wAll := wAll_in (tb_7 (List.mem_of_getElem? (i := 140) rfl)) rfl
theorem wm_7_141 : (Jvm.Cond.instanceMethod ({ cls := "GridmenderModel", name := "restColumn", desc := "(III)I" } : Jvm.MethodName)) ∈ wAll := wAll_in (tb_7 (List.mem_of_getElem? (i := 141) rfl)) rfl
theorem wm_7_142 : (Jvm.Cond.selects "GridmenderModel" ({ cls := "GridmenderModel", name := "restColumn", desc := "(III)I" } : Jvm.MethodName) ({ cls := "GridmenderModel", name := "restColumn", desc := "(III)I" } : Jvm.MethodName)) ∈ wAll := wAll_in (tb_7 (List.mem_of_getElem? (i := 142) rfl)) rfl
theorem wm_7_143 : (Jvm.Cond.code ({ cls := "GridmenderModel", name := "restColumn", desc := "(III)I" } : Jvm.MethodName) prog_9_method_52_code (7 : Nat) (Option.some Jvm.ClassFile.FieldType.int)) ∈ wAll := wAll_in (tb_7 (List.mem_of_getElem? (i := 143) rfl)) rfl
theorem wm_7_144 : (Jvm.Cond.methodLink "GridmenderLaw" (237 : Nat) ({ cls := "GridmenderModel", name := "rest", desc := "(II)Ljava/lang/String;" } : Jvm.MethodName)) ∈ wAll := wAll_in (tb_7 (List.mem_of_getElem? (i := 144) rfl)) rfl
theorem wm_7_145 : (Jvm.Cond.instanceMethod ({ cls := "GridmenderModel", name := "rest", desc := "(II)Ljava/lang/String;" } : Jvm.MethodName)) ∈ wAll := wAll_in (tb_7 (List.mem_of_getElem? (i := 145) rfl)) rfl
theorem wm_7_146 : (Jvm.Cond.selects "GridmenderModel" ({ cls := "GridmenderModel", name := "rest", desc := "(II)Ljava/lang/String;" } : Jvm.MethodName) ({ cls := "GridmenderModel", name := "rest", desc := "(II)Ljava/lang/String;" } : Jvm.MethodName)) ∈ wAll := wAll_in (tb_7 (List.mem_of_getElem? (i := 146) rfl)) rfl
theorem wm_7_147 : (Jvm.Cond.code ({ cls := "GridmenderModel", name := "rest", desc := "(II)Ljava/lang/String;" } : Jvm.MethodName) prog_9_method_54_code (9 : Nat) (Option.some (Jvm.ClassFile.FieldType.object "java/lang/String"))) ∈ wAll := wAll_in (tb_7 (List.mem_of_getElem? (i := 147) rfl)) rfl
theorem wm_7_148 : (Jvm.Cond.methodLink "GridmenderModel" (265 : Nat) ({ cls := "GridmenderModel", name := "leaving", desc := "(LGridmenderModel$Grid;)LGridmenderModel$Grid;" } : Jvm.MethodName)) ∈ wAll := wAll_in (tb_7 (List.mem_of_getElem? (i := 148) rfl)) rfl
theorem wm_7_149 : (Jvm.Cond.static ({ cls := "GridmenderModel", name := "leaving", desc := "(LGridmenderModel$Grid;)LGridmenderModel$Grid;" } : Jvm.MethodName)) ∈ wAll := wAll_in (tb_7 (List.mem_of_getElem? (i := 149) rfl)) rfl
theorem wm_7_150 : (Jvm.Cond.code ({ cls := "GridmenderModel", name := "leaving", desc := "(LGridmenderModel$Grid;)LGridmenderModel$Grid;" } : Jvm.MethodName) prog_9_method_53_code (2 : Nat) (Option.some (Jvm.ClassFile.FieldType.object "GridmenderModel$Grid"))) ∈ wAll := wAll_in (tb_7 (List.mem_of_getElem? (i := 150) rfl)) rfl
theorem wm_7_151 : (Jvm.Cond.methodLink "GridmenderModel" (268 : Nat) ({ cls := "java/lang/StringBuilder", name := "append", desc := "(I)Ljava/lang/StringBuilder;" } : Jvm.MethodName)) ∈ wAll := wAll_in (tb_7 (List.mem_of_getElem? (i := 151) rfl)) rfl
theorem wm_7_152 : (Jvm.Cond.arrayClass Jvm.ClassFile.FieldType.int) ∈ wAll := wAll_in (tb_7 (List.mem_of_getElem? (i := 152) rfl)) rfl
theorem wm_7_153 : (Jvm.Cond.methodLink "GridmenderLaw" (240 : Nat) ({ cls := "GridmenderModel", name := "restOf", desc := "(III)I" } : Jvm.MethodName)) ∈ wAll := wAll_in (tb_7 (List.mem_of_getElem? (i := 153) rfl)) rfl
theorem wm_7_154 : (Jvm.Cond.instanceMethod ({ cls := "GridmenderModel", name := "restOf", desc := "(III)I" } : Jvm.MethodName)) ∈ wAll := wAll_in (tb_7 (List.mem_of_getElem? (i := 154) rfl)) rfl
theorem wm_7_155 : (Jvm.Cond.selects "GridmenderModel" ({ cls := "GridmenderModel", name := "restOf", desc := "(III)I" } : Jvm.MethodName) ({ cls := "GridmenderModel", name := "restOf", desc := "(III)I" } : Jvm.MethodName)) ∈ wAll := wAll_in (tb_7 (List.mem_of_getElem? (i := 155) rfl)) rfl
theorem wm_7_156 : (Jvm.Cond.code ({ cls := "GridmenderModel", name := "restOf", desc := "(III)I" } : Jvm.MethodName) prog_9_method_55_code (14 : Nat) (Option.some Jvm.ClassFile.FieldType.int)) ∈ wAll := wAll_in (tb_7 (List.mem_of_getElem? (i := 156) rfl)) rfl
theorem wm_7_157 : (Jvm.Cond.methodLink "GridmenderModel" (271 : Nat) ({ cls := "java/lang/Math", name := "floorDiv", desc := "(JJ)J" } : Jvm.MethodName)) ∈ wAll := wAll_in (tb_7 (List.mem_of_getElem? (i := 157) rfl)) rfl
theorem wm_7_158 : (Jvm.Cond.methodLink "GridmenderLaw" (243 : Nat) ({ cls := "GridmenderModel", name := "house", desc := "(I)I" } : Jvm.MethodName)) ∈ wAll := wAll_in (tb_7 (List.mem_of_getElem? (i := 158) rfl)) rfl
theorem wm_7_159 : (Jvm.Cond.instanceMethod ({ cls := "GridmenderModel", name := "house", desc := "(I)I" } : Jvm.MethodName)) ∈ wAll := wAll_in (tb_7 (List.mem_of_getElem? (i := 159) rfl)) rfl
theorem wm_7_160 : (Jvm.Cond.selects "GridmenderModel" ({ cls := "GridmenderModel", name := "house", desc := "(I)I" } : Jvm.MethodName) ({ cls := "GridmenderModel", name := "house", desc := "(I)I" } : Jvm.MethodName)) ∈ wAll := wAll_in (tb_7 (List.mem_of_getElem? (i := 160) rfl)) rfl
theorem wm_7_161 : (Jvm.Cond.code ({ cls := "GridmenderModel", name := "house", desc := "(I)I" } : Jvm.MethodName) prog_9_method_57_code (2 : Nat) (Option.some Jvm.ClassFile.FieldType.int)) ∈ wAll := wAll_in (tb_7 (List.mem_of_getElem? (i := 161) rfl)) rfl
theorem wm_7_162 : (Jvm.Cond.methodLink "GridmenderModel" (277 : Nat) ({ cls := "GridmenderModel", name := "houseNow", desc := "(I)I" } : Jvm.MethodName)) ∈ wAll := wAll_in (tb_7 (List.mem_of_getElem? (i := 162) rfl)) rfl
theorem wn_7_163 : (Jvm.Cond.privateMethod ({ cls := "GridmenderModel", name := "houseNow", desc := "(I)I" } : Jvm.MethodName)) ∈ wNest := wNest_in (tb_7 (List.mem_of_getElem? (i := 163) rfl)) rfl
theorem wm_7_164 : (Jvm.Cond.instanceMethod ({ cls := "GridmenderModel", name := "houseNow", desc := "(I)I" } : Jvm.MethodName)) ∈ wAll := wAll_in (tb_7 (List.mem_of_getElem? (i := 164) rfl)) rfl
theorem wm_7_165 : (Jvm.Cond.code ({ cls := "GridmenderModel", name := "houseNow", desc := "(I)I" } : Jvm.MethodName) prog_9_method_56_code (5 : Nat) (Option.some Jvm.ClassFile.FieldType.int)) ∈ wAll := wAll_in (tb_7 (List.mem_of_getElem? (i := 165) rfl)) rfl
theorem wm_7_166 : (Jvm.Cond.methodLink "GridmenderLaw" (247 : Nat) ({ cls := "GridmenderModel", name := "knock", desc := "()I" } : Jvm.MethodName)) ∈ wAll := wAll_in (tb_7 (List.mem_of_getElem? (i := 166) rfl)) rfl
theorem wm_7_167 : (Jvm.Cond.instanceMethod ({ cls := "GridmenderModel", name := "knock", desc := "()I" } : Jvm.MethodName)) ∈ wAll := wAll_in (tb_7 (List.mem_of_getElem? (i := 167) rfl)) rfl
theorem wm_7_168 : (Jvm.Cond.selects "GridmenderModel" ({ cls := "GridmenderModel", name := "knock", desc := "()I" } : Jvm.MethodName) ({ cls := "GridmenderModel", name := "knock", desc := "()I" } : Jvm.MethodName)) ∈ wAll := wAll_in (tb_7 (List.mem_of_getElem? (i := 168) rfl)) rfl
theorem wm_7_169 : (Jvm.Cond.code ({ cls := "GridmenderModel", name := "knock", desc := "()I" } : Jvm.MethodName) prog_9_method_58_code (1 : Nat) (Option.some Jvm.ClassFile.FieldType.int)) ∈ wAll := wAll_in (tb_7 (List.mem_of_getElem? (i := 169) rfl)) rfl
theorem wm_7_170 : (Jvm.Cond.methodLink "GridmenderLaw" (252 : Nat) ({ cls := "GridmenderModel", name := "isSound", desc := "()Z" } : Jvm.MethodName)) ∈ wAll := wAll_in (tb_7 (List.mem_of_getElem? (i := 170) rfl)) rfl
theorem wm_7_171 : (Jvm.Cond.instanceMethod ({ cls := "GridmenderModel", name := "isSound", desc := "()Z" } : Jvm.MethodName)) ∈ wAll := wAll_in (tb_7 (List.mem_of_getElem? (i := 171) rfl)) rfl
theorem wm_7_172 : (Jvm.Cond.selects "GridmenderModel" ({ cls := "GridmenderModel", name := "isSound", desc := "()Z" } : Jvm.MethodName) ({ cls := "GridmenderModel", name := "isSound", desc := "()Z" } : Jvm.MethodName)) ∈ wAll := wAll_in (tb_7 (List.mem_of_getElem? (i := 172) rfl)) rfl
theorem wm_7_173 : (Jvm.Cond.code ({ cls := "GridmenderModel", name := "isSound", desc := "()Z" } : Jvm.MethodName) prog_9_method_60_code (1 : Nat) (Option.some Jvm.ClassFile.FieldType.boolean)) ∈ wAll := wAll_in (tb_7 (List.mem_of_getElem? (i := 173) rfl)) rfl
theorem wm_7_174 : (Jvm.Cond.methodLink "GridmenderModel" (280 : Nat) ({ cls := "GridmenderModel", name := "isSoundNow", desc := "()Z" } : Jvm.MethodName)) ∈ wAll := wAll_in (tb_7 (List.mem_of_getElem? (i := 174) rfl)) rfl
theorem wn_7_175 : (Jvm.Cond.privateMethod ({ cls := "GridmenderModel", name := "isSoundNow", desc := "()Z" } : Jvm.MethodName)) ∈ wNest := wNest_in (tb_7 (List.mem_of_getElem? (i := 175) rfl)) rfl
theorem wm_7_176 : (Jvm.Cond.instanceMethod ({ cls := "GridmenderModel", name := "isSoundNow", desc := "()Z" } : Jvm.MethodName)) ∈ wAll := wAll_in (tb_7 (List.mem_of_getElem? (i := 176) rfl)) rfl
theorem wm_7_177 : (Jvm.Cond.code ({ cls := "GridmenderModel", name := "isSoundNow", desc := "()Z" } : Jvm.MethodName) prog_9_method_59_code (7 : Nat) (Option.some Jvm.ClassFile.FieldType.boolean)) ∈ wAll := wAll_in (tb_7 (List.mem_of_getElem? (i := 177) rfl)) rfl
theorem wm_7_178 : (Jvm.Cond.methodLink "GridmenderLaw" (257 : Nat) ({ cls := "GridmenderModel", name := "digest", desc := "()J" } : Jvm.MethodName)) ∈ wAll := wAll_in (tb_7 (List.mem_of_getElem? (i := 178) rfl)) rfl
theorem wm_7_179 : (Jvm.Cond.instanceMethod ({ cls := "GridmenderModel", name := "digest", desc := "()J" } : Jvm.MethodName)) ∈ wAll := wAll_in (tb_7 (List.mem_of_getElem? (i := 179) rfl)) rfl
theorem wm_7_180 : (Jvm.Cond.selects "GridmenderModel" ({ cls := "GridmenderModel", name := "digest", desc := "()J" } : Jvm.MethodName) ({ cls := "GridmenderModel", name := "digest", desc := "()J" } : Jvm.MethodName)) ∈ wAll := wAll_in (tb_7 (List.mem_of_getElem? (i := 180) rfl)) rfl
theorem wm_7_181 : (Jvm.Cond.code ({ cls := "GridmenderModel", name := "digest", desc := "()J" } : Jvm.MethodName) prog_9_method_61_code (9 : Nat) (Option.some Jvm.ClassFile.FieldType.long)) ∈ wAll := wAll_in (tb_7 (List.mem_of_getElem? (i := 181) rfl)) rfl
theorem wm_7_182 : (Jvm.Cond.constantLong "GridmenderModel" (283 : Nat) (8032 : Int64)) ∈ wAll := wAll_in (tb_7 (List.mem_of_getElem? (i := 182) rfl)) rfl
theorem wm_7_183 : (Jvm.Cond.constantLong "GridmenderModel" (285 : Nat) (31 : Int64)) ∈ wAll := wAll_in (tb_7 (List.mem_of_getElem? (i := 183) rfl)) rfl
theorem wm_7_184 : (Jvm.Cond.sameMethod "java/lang/Throwable" "java/lang/Throwable" "fillInStackTrace" "(I)Ljava/lang/Throwable;") ∈ wAll := wAll_in (tb_7 (List.mem_of_getElem? (i := 184) rfl)) rfl
theorem wm_7_185 : (Jvm.Cond.sameMethod "java/lang/AbstractStringBuilder" "java/lang/AbstractStringBuilder" "append" "(C)Ljava/lang/AbstractStringBuilder;") ∈ wAll := wAll_in (tb_7 (List.mem_of_getElem? (i := 185) rfl)) rfl
theorem wm_7_186 : (Jvm.Cond.sameMethod "java/lang/AbstractStringBuilder" "java/lang/AbstractStringBuilder" "ensureCapacityInternal" "(I)V") ∈ wAll := wAll_in (tb_7 (List.mem_of_getElem? (i := 186) rfl)) rfl
theorem wm_7_187 : (Jvm.Cond.sameMethod "java/lang/AbstractStringBuilder" "java/lang/AbstractStringBuilder" "newCapacity" "(I)I") ∈ wAll := wAll_in (tb_7 (List.mem_of_getElem? (i := 187) rfl)) rfl
theorem wm_7_188 : (Jvm.Cond.sameMethod "java/lang/AbstractStringBuilder" "java/lang/AbstractStringBuilder" "inflate" "()V") ∈ wAll := wAll_in (tb_7 (List.mem_of_getElem? (i := 188) rfl)) rfl
theorem wm_7_189 : (Jvm.Cond.sameMethod "java/lang/AbstractStringBuilder" "java/lang/AbstractStringBuilder" "append" "(I)Ljava/lang/AbstractStringBuilder;") ∈ wAll := wAll_in (tb_7 (List.mem_of_getElem? (i := 189) rfl)) rfl
theorem wm_7_190 : (Jvm.Cond.sameMethod "java/lang/AbstractStringBuilder" "java/lang/AbstractStringBuilder" "append" "(Ljava/lang/String;)Ljava/lang/AbstractStringBuilder;") ∈ wAll := wAll_in (tb_7 (List.mem_of_getElem? (i := 190) rfl)) rfl
theorem wm_7_191 : (Jvm.Cond.sameMethod "java/lang/AbstractStringBuilder" "java/lang/AbstractStringBuilder" "appendNull" "()Ljava/lang/AbstractStringBuilder;") ∈ wAll := wAll_in (tb_7 (List.mem_of_getElem? (i := 191) rfl)) rfl
theorem wm_7_192 : (Jvm.Cond.sameMethod "java/lang/AbstractStringBuilder" "java/lang/AbstractStringBuilder" "putStringAt" "(ILjava/lang/String;)V") ∈ wAll := wAll_in (tb_7 (List.mem_of_getElem? (i := 192) rfl)) rfl
theorem wm_7_193 : (Jvm.Cond.sameMethod "java/lang/AbstractStringBuilder" "java/lang/AbstractStringBuilder" "inflateIfNeededFor" "(Ljava/lang/String;)V") ∈ wAll := wAll_in (tb_7 (List.mem_of_getElem? (i := 193) rfl)) rfl
theorem wm_7_194 : (Jvm.Cond.sameMethod "java/lang/AbstractStringBuilder" "java/lang/AbstractStringBuilder" "append" "(J)Ljava/lang/AbstractStringBuilder;") ∈ wAll := wAll_in (tb_7 (List.mem_of_getElem? (i := 194) rfl)) rfl
theorem wp_0 : Cond.selects "Gridmender" ⟨"Gridmender", "isFirstSound", "()Z"⟩ ⟨"Gridmender", "isFirstSound", "()Z"⟩ ∈ wAll := wAll_in (List.mem_append_left _ (List.mem_of_getElem? (i := 0) (by rfl))) rfl
theorem wp_1 : Cond.selects "Gridmender$RowSteps" ⟨"Gridmender$RowSteps", "clearColumn", "(II)Z"⟩ ⟨"Gridmender$RowSteps", "clearColumn", "(II)Z"⟩ ∈ wAll := wAll_in (List.mem_append_left _ (List.mem_of_getElem? (i := 1) (by rfl))) rfl
theorem wp_2 : Cond.selects "Gridmender$RowSteps" ⟨"Gridmender$RowSteps", "findLeastRow", "(II)I"⟩ ⟨"Gridmender$RowSteps", "findLeastRow", "(II)I"⟩ ∈ wAll := wAll_in (List.mem_append_left _ (List.mem_of_getElem? (i := 2) (by rfl))) rfl
theorem wp_3 : Cond.selects "Gridmender$RowSteps" ⟨"Gridmender$RowSteps", "bring", "(III)V"⟩ ⟨"Gridmender$RowSteps", "bring", "(III)V"⟩ ∈ wAll := wAll_in (List.mem_append_left _ (List.mem_of_getElem? (i := 3) (by rfl))) rfl
theorem wp_4 : Cond.selects "Gridmender$RowSteps" ⟨"Gridmender$RowSteps", "takeOff", "(III)V"⟩ ⟨"Gridmender$RowSteps", "takeOff", "(III)V"⟩ ∈ wAll := wAll_in (List.mem_append_left _ (List.mem_of_getElem? (i := 4) (by rfl))) rfl
theorem wp_5 : Cond.selects "Gridmender$RowSteps" ⟨"Gridmender$RowSteps", "isClearBelow", "(II)Z"⟩ ⟨"Gridmender$RowSteps", "isClearBelow", "(II)Z"⟩ ∈ wAll := wAll_in (List.mem_append_left _ (List.mem_of_getElem? (i := 5) (by rfl))) rfl
theorem wp_6 : Cond.selects "Gridmender" ⟨"Gridmender", "isSoundByRowSteps", "(LGridmender$Grid;)Z"⟩ ⟨"Gridmender", "isSoundByRowSteps", "(LGridmender$Grid;)Z"⟩ ∈ wAll := wAll_in (List.mem_append_left _ (List.mem_of_getElem? (i := 6) (by rfl))) rfl
theorem wp_7 : Cond.selects "Gridmender$DiagonalSteps" ⟨"Gridmender$DiagonalSteps", "clearCross", "(I)Z"⟩ ⟨"Gridmender$DiagonalSteps", "clearCross", "(I)Z"⟩ ∈ wAll := wAll_in (List.mem_append_left _ (List.mem_of_getElem? (i := 7) (by rfl))) rfl
theorem wp_8 : Cond.selects "Gridmender$DiagonalSteps" ⟨"Gridmender$DiagonalSteps", "findLeastPlace", "(I)I"⟩ ⟨"Gridmender$DiagonalSteps", "findLeastPlace", "(I)I"⟩ ∈ wAll := wAll_in (List.mem_append_left _ (List.mem_of_getElem? (i := 8) (by rfl))) rfl
theorem wp_9 : Cond.selects "Gridmender$DiagonalSteps" ⟨"Gridmender$DiagonalSteps", "bring", "(III)V"⟩ ⟨"Gridmender$DiagonalSteps", "bring", "(III)V"⟩ ∈ wAll := wAll_in (List.mem_append_left _ (List.mem_of_getElem? (i := 9) (by rfl))) rfl
theorem wp_10 : Cond.selects "Gridmender$DiagonalSteps" ⟨"Gridmender$DiagonalSteps", "addRow", "(IIJ)V"⟩ ⟨"Gridmender$DiagonalSteps", "addRow", "(IIJ)V"⟩ ∈ wAll := wAll_in (List.mem_append_left _ (List.mem_of_getElem? (i := 10) (by rfl))) rfl
theorem wp_11 : Cond.selects "Gridmender$DiagonalSteps" ⟨"Gridmender$DiagonalSteps", "addColumn", "(IIJ)V"⟩ ⟨"Gridmender$DiagonalSteps", "addColumn", "(IIJ)V"⟩ ∈ wAll := wAll_in (List.mem_append_left _ (List.mem_of_getElem? (i := 11) (by rfl))) rfl
theorem wp_12 : Cond.selects "Gridmender$DiagonalSteps" ⟨"Gridmender$DiagonalSteps", "isCrossClear", "(I)Z"⟩ ⟨"Gridmender$DiagonalSteps", "isCrossClear", "(I)Z"⟩ ∈ wAll := wAll_in (List.mem_append_left _ (List.mem_of_getElem? (i := 12) (by rfl))) rfl
theorem wp_13 : Cond.selects "Gridmender$DiagonalSteps" ⟨"Gridmender$DiagonalSteps", "findUndividedRow", "(I)I"⟩ ⟨"Gridmender$DiagonalSteps", "findUndividedRow", "(I)I"⟩ ∈ wAll := wAll_in (List.mem_append_left _ (List.mem_of_getElem? (i := 13) (by rfl))) rfl
theorem wp_14 : Cond.selects "Gridmender" ⟨"Gridmender", "isSoundBySteps", "(LGridmender$Grid;)Z"⟩ ⟨"Gridmender", "isSoundBySteps", "(LGridmender$Grid;)Z"⟩ ∈ wAll := wAll_in (List.mem_append_left _ (List.mem_of_getElem? (i := 14) (by rfl))) rfl
theorem wp_15 : Cond.selects "Gridmender" ⟨"Gridmender", "countHouse", "(I)I"⟩ ⟨"Gridmender", "countHouse", "(I)I"⟩ ∈ wAll := wAll_in (List.mem_append_left _ (List.mem_of_getElem? (i := 15) (by rfl))) rfl
theorem wp_16 : Cond.selects "Gridmender" ⟨"Gridmender", "countLikePairs", "()I"⟩ ⟨"Gridmender", "countLikePairs", "()I"⟩ ∈ wAll := wAll_in (List.mem_append_left _ (List.mem_of_getElem? (i := 16) (by rfl))) rfl
theorem wp_17 : Cond.selects "Gridmender" ⟨"Gridmender", "needTable", "(I)LGridmender$Grid;"⟩ ⟨"Gridmender", "needTable", "(I)LGridmender$Grid;"⟩ ∈ wAll := wAll_in (List.mem_append_left _ (List.mem_of_getElem? (i := 17) (by rfl))) rfl
theorem wp_18 : Cond.selects "java/lang/Throwable" ⟨"java/lang/Throwable", "fillInStackTrace", "(I)Ljava/lang/Throwable;"⟩ ⟨"java/lang/Throwable", "fillInStackTrace", "(I)Ljava/lang/Throwable;"⟩ ∈ wAll := wAll_in (List.mem_append_left _ (List.mem_of_getElem? (i := 18) (by rfl))) rfl
theorem wp_19 : Cond.selects "Gridmender" ⟨"Gridmender", "tellDone", "(I)I"⟩ ⟨"Gridmender", "tellDone", "(I)I"⟩ ∈ wAll := wAll_in (List.mem_append_left _ (List.mem_of_getElem? (i := 19) (by rfl))) rfl
theorem wp_20 : Cond.selects "Gridmender" ⟨"Gridmender", "settleChange", "(LGridmender$Grid;)I"⟩ ⟨"Gridmender", "settleChange", "(LGridmender$Grid;)I"⟩ ∈ wAll := wAll_in (List.mem_append_left _ (List.mem_of_getElem? (i := 20) (by rfl))) rfl
theorem wp_21 : Cond.selects "Gridmender" ⟨"Gridmender", "tellRefused", "()I"⟩ ⟨"Gridmender", "tellRefused", "()I"⟩ ∈ wAll := wAll_in (List.mem_append_left _ (List.mem_of_getElem? (i := 21) (by rfl))) rfl
theorem wp_22 : Cond.selects "Gridmender" ⟨"Gridmender", "settleForm", "(LGridmender$Grid;LGridmender$Grid;)I"⟩ ⟨"Gridmender", "settleForm", "(LGridmender$Grid;LGridmender$Grid;)I"⟩ ∈ wAll := wAll_in (List.mem_append_left _ (List.mem_of_getElem? (i := 22) (by rfl))) rfl
theorem wp_23 : Cond.selects "Gridmender" ⟨"Gridmender", "findForm", "(LGridmender$Grid;I)LGridmender$Grid;"⟩ ⟨"Gridmender", "findForm", "(LGridmender$Grid;I)LGridmender$Grid;"⟩ ∈ wAll := wAll_in (List.mem_append_left _ (List.mem_of_getElem? (i := 23) (by rfl))) rfl
theorem wp_24 : Cond.selects "Gridmender" ⟨"Gridmender", "leavesRests", "(LGridmender$Grid;)Z"⟩ ⟨"Gridmender", "leavesRests", "(LGridmender$Grid;)Z"⟩ ∈ wAll := wAll_in (List.mem_append_left _ (List.mem_of_getElem? (i := 24) (by rfl))) rfl
theorem wp_25 : Cond.selects "Gridmender" ⟨"Gridmender", "setRowNumber", "(IJ)V"⟩ ⟨"Gridmender", "setRowNumber", "(IJ)V"⟩ ∈ wAll := wAll_in (List.mem_append_left _ (List.mem_of_getElem? (i := 25) (by rfl))) rfl
theorem wp_26 : Cond.selects "Gridmender" ⟨"Gridmender", "rowNumber", "(I)J"⟩ ⟨"Gridmender", "rowNumber", "(I)J"⟩ ∈ wAll := wAll_in (List.mem_append_left _ (List.mem_of_getElem? (i := 26) (by rfl))) rfl
theorem wp_27 : Cond.selects "GridmenderModel" ⟨"GridmenderModel", "isThrown", "(ZZ)Z"⟩ ⟨"GridmenderModel", "isThrown", "(ZZ)Z"⟩ ∈ wAll := wAll_in (List.mem_append_left _ (List.mem_of_getElem? (i := 27) (by rfl))) rfl
theorem wp_28 : Cond.selects "GridmenderModel" ⟨"GridmenderModel", "isThrown", "(ZZZ)Z"⟩ ⟨"GridmenderModel", "isThrown", "(ZZZ)Z"⟩ ∈ wAll := wAll_in (List.mem_append_left _ (List.mem_of_getElem? (i := 28) (by rfl))) rfl
theorem wp_29 : Cond.selects "GridmenderModel" ⟨"GridmenderModel", "lay", "(ILGridmenderModel$Grid;)I"⟩ ⟨"GridmenderModel", "lay", "(ILGridmenderModel$Grid;)I"⟩ ∈ wAll := wAll_in (List.mem_append_left _ (List.mem_of_getElem? (i := 29) (by rfl))) rfl
theorem wp_30 : Cond.selects "GridmenderModel" ⟨"GridmenderModel", "told", "(I)I"⟩ ⟨"GridmenderModel", "told", "(I)I"⟩ ∈ wAll := wAll_in (List.mem_append_left _ (List.mem_of_getElem? (i := 30) (by rfl))) rfl
theorem wp_31 : Cond.selects "GridmenderModel" ⟨"GridmenderModel", "isRow", "(II)Z"⟩ ⟨"GridmenderModel", "isRow", "(II)Z"⟩ ∈ wAll := wAll_in (List.mem_append_left _ (List.mem_of_getElem? (i := 31) (by rfl))) rfl
theorem wp_32 : Cond.selects "GridmenderModel" ⟨"GridmenderModel", "isColumn", "(II)Z"⟩ ⟨"GridmenderModel", "isColumn", "(II)Z"⟩ ∈ wAll := wAll_in (List.mem_append_left _ (List.mem_of_getElem? (i := 32) (by rfl))) rfl
theorem wp_33 : Cond.selects "GridmenderModel" ⟨"GridmenderModel", "isThrown", "(Z)Z"⟩ ⟨"GridmenderModel", "isThrown", "(Z)Z"⟩ ∈ wAll := wAll_in (List.mem_append_left _ (List.mem_of_getElem? (i := 33) (by rfl))) rfl
theorem wp_34 : Cond.selects "GridmenderModel" ⟨"GridmenderModel", "isLine", "(IZI)Z"⟩ ⟨"GridmenderModel", "isLine", "(IZI)Z"⟩ ∈ wAll := wAll_in (List.mem_append_left _ (List.mem_of_getElem? (i := 34) (by rfl))) rfl
theorem wp_35 : Cond.selects "GridmenderModel" ⟨"GridmenderModel", "changed", "(ILGridmenderModel$Grid;)I"⟩ ⟨"GridmenderModel", "changed", "(ILGridmenderModel$Grid;)I"⟩ ∈ wAll := wAll_in (List.mem_append_left _ (List.mem_of_getElem? (i := 35) (by rfl))) rfl
theorem wp_36 : Cond.selects "GridmenderModel" ⟨"GridmenderModel", "no", "()I"⟩ ⟨"GridmenderModel", "no", "()I"⟩ ∈ wAll := wAll_in (List.mem_append_left _ (List.mem_of_getElem? (i := 36) (by rfl))) rfl
theorem wp_37 : Cond.selects "GridmenderModel" ⟨"GridmenderModel", "become", "(ILGridmenderModel$Grid;)I"⟩ ⟨"GridmenderModel", "become", "(ILGridmenderModel$Grid;)I"⟩ ∈ wAll := wAll_in (List.mem_append_left _ (List.mem_of_getElem? (i := 37) (by rfl))) rfl
theorem wp_38 : Cond.selects "GridmenderModel$Stepped" ⟨"GridmenderModel$Stepped", "isCleared", "(II)Z"⟩ ⟨"GridmenderModel$Stepped", "isCleared", "(II)Z"⟩ ∈ wAll := wAll_in (List.mem_append_left _ (List.mem_of_getElem? (i := 38) (by rfl))) rfl
theorem wp_39 : Cond.selects "GridmenderModel$Stepped" ⟨"GridmenderModel$Stepped", "least", "(II)I"⟩ ⟨"GridmenderModel$Stepped", "least", "(II)I"⟩ ∈ wAll := wAll_in (List.mem_append_left _ (List.mem_of_getElem? (i := 39) (by rfl))) rfl
theorem wp_40 : Cond.selects "GridmenderModel$Stepped" ⟨"GridmenderModel$Stepped", "takeOff", "(III)V"⟩ ⟨"GridmenderModel$Stepped", "takeOff", "(III)V"⟩ ∈ wAll := wAll_in (List.mem_append_left _ (List.mem_of_getElem? (i := 40) (by rfl))) rfl
theorem wp_41 : Cond.selects "GridmenderModel$Straight" ⟨"GridmenderModel$Straight", "isCleared", "(I)Z"⟩ ⟨"GridmenderModel$Straight", "isCleared", "(I)Z"⟩ ∈ wAll := wAll_in (List.mem_append_left _ (List.mem_of_getElem? (i := 41) (by rfl))) rfl
theorem wp_42 : Cond.selects "GridmenderModel$Straight" ⟨"GridmenderModel$Straight", "isLess", "(JJ)Z"⟩ ⟨"GridmenderModel$Straight", "isLess", "(JJ)Z"⟩ ∈ wAll := wAll_in (List.mem_append_left _ (List.mem_of_getElem? (i := 42) (by rfl))) rfl
theorem wp_43 : Cond.selects "GridmenderModel$Straight" ⟨"GridmenderModel$Straight", "bring", "(III)V"⟩ ⟨"GridmenderModel$Straight", "bring", "(III)V"⟩ ∈ wAll := wAll_in (List.mem_append_left _ (List.mem_of_getElem? (i := 43) (by rfl))) rfl
theorem wp_44 : Cond.selects "GridmenderModel$Straight" ⟨"GridmenderModel$Straight", "takeOff", "(I)V"⟩ ⟨"GridmenderModel$Straight", "takeOff", "(I)V"⟩ ∈ wAll := wAll_in (List.mem_append_left _ (List.mem_of_getElem? (i := 44) (by rfl))) rfl
theorem wp_45 : Cond.selects "GridmenderModel$Straight" ⟨"GridmenderModel$Straight", "look", "()V"⟩ ⟨"GridmenderModel$Straight", "look", "()V"⟩ ∈ wAll := wAll_in (List.mem_append_left _ (List.mem_of_getElem? (i := 45) (by rfl))) rfl
theorem wp_46 : Cond.selects "GridmenderModel$Straight" ⟨"GridmenderModel$Straight", "isAlone", "(I)Z"⟩ ⟨"GridmenderModel$Straight", "isAlone", "(I)Z"⟩ ∈ wAll := wAll_in (List.mem_append_left _ (List.mem_of_getElem? (i := 46) (by rfl))) rfl
theorem wp_47 : Cond.selects "GridmenderModel$Straight" ⟨"GridmenderModel$Straight", "isDividing", "(I)Z"⟩ ⟨"GridmenderModel$Straight", "isDividing", "(I)Z"⟩ ∈ wAll := wAll_in (List.mem_append_left _ (List.mem_of_getElem? (i := 47) (by rfl))) rfl
theorem wp_48 : Cond.selects "GridmenderModel" ⟨"GridmenderModel", "column", "(II)LGridmenderModel$Grid;"⟩ ⟨"GridmenderModel", "column", "(II)LGridmenderModel$Grid;"⟩ ∈ wAll := wAll_in (List.mem_append_left _ (List.mem_of_getElem? (i := 48) (by rfl))) rfl
theorem wp_49 : Cond.selects "GridmenderModel" ⟨"GridmenderModel", "houseNow", "(I)I"⟩ ⟨"GridmenderModel", "houseNow", "(I)I"⟩ ∈ wAll := wAll_in (List.mem_append_left _ (List.mem_of_getElem? (i := 49) (by rfl))) rfl
theorem wp_50 : Cond.selects "GridmenderModel" ⟨"GridmenderModel", "isSoundNow", "()Z"⟩ ⟨"GridmenderModel", "isSoundNow", "()Z"⟩ ∈ wAll := wAll_in (List.mem_append_left _ (List.mem_of_getElem? (i := 50) (by rfl))) rfl
end
section
-- 10.base
/-! ===== The plumbing: a world is a list of cells; a contract over it; a call ===== -/
/-- the constants of a run: the tables' classes, the arrays' classes, where the start's heap ends -/
abbrev Kt : Type := va_G × (Nat → ClassId) × Nat
def tysK (κ : Kt) : List (ClassId × FieldType) := [(κ.2.1 0, .long), (κ.2.1 1, .object "Gridmender$Grid"), (κ.2.1 2, .object "GridmenderModel$Grid"), (κ.2.1 3, .byte), (κ.2.1 4, .int)]
def Nst (U : State) : Prop := ∀ w ∈ wNest, va_Nw w U
theorem Nst.use {U : State} {w : Cond} (h : Nst U) (hw : w ∈ wNest) : va_Nw w U := h w hw
theorem Nst.warm {s U : State} (hW : s.WarmedH U.vm) (h : Nst s) : Nst U := by
  intro w hw
  have h1 := h w hw
  have h2 := (List.mem_filter.mp hw).2
  cases w <;> first | (simp [wNk] at h2; done) | exact va_Nw.warmF hW h1 | exact va_Nw.warmM hW h1 | exact va_Nw.warmC hW h1 | exact va_Nw.warmD hW h1 | exact Cond.privateMethod_warm (args := #[]) (args' := #[]) hW h1 | exact va_tabs rfl (rfl : (s.setVm U.vm).vm = U.vm) (by rw [Cond.native_setVm hW.alike]; exact h1)
theorem Nst.same {u U : State} (hv : u.vm = U.vm) (h : Nst u) : Nst U := by
  intro w hw
  have h1 := h w hw
  have h2 := (List.mem_filter.mp hw).2
  cases w <;> first | (simp [wNk] at h2; done) | exact va_Nw.same rfl hv h1
abbrev Az (κ : Kt) : Nat → Prop := fun q => κ.2.2 ≤ q
/-- the texts that the exceptions of the class are made with, by their places -/
def strs : List (Nat × String) := [(273, "no such table"), (276, "no such row or column"), (280, "not allowed here"), (283, "the table does not allow it"), (225, "the steps are great")]
/-- an exception of one of these classes isn't of the other -/
def Ncs (U : State) : Prop := va_Nc "java/lang/IllegalArgumentException" "java/lang/IndexOutOfBoundsException" U ∧ va_Nc "java/lang/IllegalStateException" "java/lang/IndexOutOfBoundsException" U ∧ va_Nc "java/lang/IllegalStateException" "java/lang/IllegalArgumentException" U ∧ va_Nc "java/lang/IllegalArgumentException" "java/lang/IllegalStateException" U
theorem Ncs.moved {u U : State} (hv : u.vm.Alike U.vm) (h : Ncs u) : Ncs U := ⟨h.1.moved hv, h.2.1.moved hv, h.2.2.1.moved hv, h.2.2.2.moved hv⟩
def Sn (U : State) : Prop := (∀ x ∈ strs, ∃ a, vk_R "Gridmender" x.1 x.2 a U) ∧ va_AO "Gridmender$Grid" U ∧ va_AO "GridmenderModel$Grid" U ∧ Ncs U
theorem Sn.warm {s U : State} (hW : s.WarmedH U.vm) (h : Sn s) : Sn U := ⟨fun x hx => by
  obtain ⟨a, ha⟩ := h.1 x hx
  exact ⟨a, ha.warm hW⟩, h.2.1.moved hW.alike, h.2.2.1.moved hW.alike, h.2.2.2.moved hW.alike⟩
theorem Sn.same {u U : State} (hv : u.vm = U.vm) (h : Sn u) : Sn U := by
  have e : u.vm.Alike U.vm := by rw [hv]; exact Vm.Alike.refl _
  refine ⟨fun x hx => ?_, h.2.1.moved e, h.2.2.1.moved e, h.2.2.2.moved e⟩
  obtain ⟨a, ha⟩ := h.1 x hx
  exact ⟨a, vk_R.same hv.symm ha⟩
/-- statics of the JDK that are read, and the texts of the reference -/
def Zs (κ : Kt) (U : State) (H : Heap) : Prop :=
  vx_Zq Bundle.tN "UNASSIGNED_STACK" Bundle.steD (Az κ) U H ∧ vx_Zq Bundle.tN "SUPPRESSED_SENTINEL" Bundle.listD (Az κ) U H ∧ va_Z "java/lang/String" "COMPACT_STRINGS" "Z" (.int 1) (Az κ) U H ∧
  (∃ (t : Nat) (f : Nat → Int32), va_Z "java/lang/Integer" "DigitTens" "[B" (.ref t) (Az κ) U H ∧ va_T .byte t 100 (fun j => .int (f j)) (Az κ) U H) ∧
  (∃ (t : Nat) (f : Nat → Int32), va_Z "java/lang/Integer" "DigitOnes" "[B" (.ref t) (Az κ) U H ∧ va_T .byte t 100 (fun j => .int (f j)) (Az κ) U H)
theorem Zs.moved {κ : Kt} {u U : State} {H : Heap} (hv : u.vm.Alike U.vm) (h : Zs κ u H) : Zs κ U H := by
  obtain ⟨h1, h2, h3, ⟨t, f, h4, h5⟩, t', f', h6, h7⟩ := h
  exact ⟨h1.moved hv, h2.moved hv, h3.moved hv, ⟨t, f, h4.moved hv, h5.moved hv⟩, t', f', h6.moved hv, h7.moved hv⟩
theorem Zs.kept {κ : Kt} {U : State} {H H1 : Heap} (h : Zs κ U H) (hq : ∀ a : Nat, a < H.size → ¬ κ.2.2 ≤ a → H1[a]? = H[a]?) : Zs κ U H1 := by
  obtain ⟨h1, h2, h3, ⟨t, f, h4, h5⟩, t', f', h6, h7⟩ := h
  exact ⟨h1.kept hq, h2.kept hq, h3.kept hq, ⟨t, f, h4.kept hq, h5.kept hq⟩, t', f', h6.kept hq, h7.kept hq⟩
/-- where the texts of the reference lie -/
abbrev adK (κ : Kt) : Nat → Nat := κ.1.2 100
abbrev adV (κ : Kt) : Nat → Nat := κ.1.2 101
def Zt (κ : Kt) (U : State) (H : Heap) : Prop := vk_R "GridmenderModel" 205 "" (adK κ 0) U ∧ vk_R "GridmenderModel" 210 " " (adK κ 1) U ∧ vk_R "GridmenderModel" 212 "/" (adK κ 2) U ∧ vk_S 3 [0, 1, 1] [[], [32], [47]] (adK κ) (adV κ) (Az κ) U H
theorem Zt.warm {κ : Kt} {s U : State} {H : Heap} (hW : s.WarmedH U.vm) (h : Zt κ s H) : Zt κ U H := by
  obtain ⟨h1, h2, h3, h4⟩ := h
  exact ⟨h1.warm hW, h2.warm hW, h3.warm hW, h4.moved hW.alike⟩
theorem Zt.same {κ : Kt} {u U : State} {H : Heap} (hv : u.vm = U.vm) (h : Zt κ u H) : Zt κ U H := by
  obtain ⟨h1, h2, h3, h4⟩ := h
  exact ⟨vk_R.same hv.symm h1, vk_R.same hv.symm h2, vk_R.same hv.symm h3, h4.moved (by rw [hv]; exact Vm.Alike.refl _)⟩
theorem Zt.kept {κ : Kt} {U : State} {H H1 : Heap} (h : Zt κ U H) (hq : ∀ a : Nat, a < H.size → ¬ κ.2.2 ≤ a → H1[a]? = H[a]?) : Zt κ U H1 := by
  obtain ⟨h1, h2, h3, h4⟩ := h
  exact ⟨h1, h2, h3, h4.kept hq⟩
/-- what every method may ask of the machine -/
def Ev (κ : Kt) (U : State) (H : Heap) : Prop := va_K κ.1 vwCl (tysK κ) U ∧ Nst U ∧ (Zs κ U H ∧ Zt κ U H ∧ Sn U) ∧ κ.2.2 ≤ H.size
theorem Ev.warm {κ : Kt} {s U : State} {H : Heap} (hW : s.WarmedH U.vm) (h : Ev κ s H) : Ev κ U H := ⟨h.1.moved hW.alike, h.2.1.warm hW, ⟨h.2.2.1.1.moved hW.alike, h.2.2.1.2.1.warm hW, h.2.2.1.2.2.warm hW⟩, h.2.2.2⟩
theorem Ev.same {κ : Kt} {s U : State} {H : Heap} (hv : s.vm = U.vm) (h : Ev κ s H) : Ev κ U H := by
  have hA : s.vm.Alike U.vm := by rw [hv]; exact Vm.Alike.refl _
  exact ⟨h.1.moved hA, h.2.1.same hv, ⟨h.2.2.1.1.moved hA, h.2.2.1.2.1.same hv, h.2.2.1.2.2.same hv⟩, h.2.2.2⟩
theorem Ev.kept {κ : Kt} {U : State} {H H1 : Heap} (h : Ev κ U H) (hz : H.size ≤ H1.size) (hq : ∀ a : Nat, a < H.size → ¬ κ.2.2 ≤ a → H1[a]? = H[a]?) : Ev κ U H1 := ⟨h.1, h.2.1, ⟨h.2.2.1.1.kept hq, h.2.2.1.2.1.kept hq, h.2.2.1.2.2⟩, Nat.le_trans h.2.2.2 hz⟩
/-- the addresses of a world -/
def Fw (w : va_W) (q : Nat) : Prop := ∃ e : va_E, (q, e) ∈ w
theorem Fw_at {w : va_W} {q : Nat} (h : Fw w q) : ∃ (k : Nat) (e : va_E), w[k]? = some (q, e) := by
  obtain ⟨e, h⟩ := h
  obtain ⟨k, hk⟩ := List.getElem?_of_mem h
  exact ⟨k, e, hk⟩
theorem D_of {A : Nat → Prop} {w : va_W} (hD : va_D A w) {q : Nat} (h : Fw w q) : A q := by
  obtain ⟨k, e, hk⟩ := Fw_at h
  exact hD.2 k _ hk
theorem P_kept {D : va_G} {cl : List vw_C} {w : va_W} {H H1 : Heap} (h : va_P D cl w H) (hq : ∀ q, Fw w q → H1[q]? = H[q]?) : va_P D cl w H1 := fun k q hk => (h k q hk).kept (hq q.1 ⟨q.2, List.mem_of_getElem? hk⟩)
theorem P_lt {D : va_G} {cl : List vw_C} {w : va_W} {H : Heap} (h : va_P D cl w H) {q : Nat} (hf : Fw w q) : q < H.size := by
  obtain ⟨k, e, hk⟩ := Fw_at hf
  exact (h k _ hk).lt
abbrev Ac (w : va_W) (sz : Nat) : Nat → Prop := fun q => Fw w q ∨ sz ≤ q
/-- a method's end: its answer, its world -/
def Qm (κ : Kt) (w : va_W) (post : Option Value → va_W → Prop) (sz : Nat) : Array Value → State → Outcome → State → Prop := fun _ st oc t =>
  (∃ (r : Option Value) (w' : va_W), oc = .returned r ∧ post r w' ∧ va_P κ.1 vwCl w' t.heap ∧ va_D (Ac w sz) w') ∧ va_F (Ac w sz) st t
def Pm (κ : Kt) (av : List Value) (w : va_W) (sz : Nat) : Array Value → State → Prop := va_Pc av (fun U => U.heap.size = sz ∧ Ev κ U U.heap ∧ va_P κ.1 vwCl w U.heap ∧ va_D (Az κ) w)
abbrev Rm (fr lo mc ms : Nat) : Room := { frames := fr, cells := mc, slots := ms, locals := lo }
/-- a contract: from the world w with these arguments the method returns, with 'post' of its answer and of the world behind it -/
def CM (κ : Kt) (l : Launch) (y : MethodName) (cc : ByteArray) (n : Nat) (ret : Option FieldType) (fr lo mc ms : Nat) (av : List Value) (w : va_W) (post : Option Value → va_W → Prop) : Prop :=
  ∀ sz : Nat, Met l y (Cond.code y cc n ret :: wAll) (Rm fr lo mc ms) (Pm κ av w sz) (Qm κ w post sz) mc ms (Ac w sz)
theorem gAll {y : MethodName} {cc : ByteArray} {n : Nat} {ret : Option FieldType} (h : Cond.code y cc n ret ∈ wAll) : GoodIn wAll (Cond.code y cc n ret :: wAll) := fun w hw => by
  rcases List.mem_cons.mp hw with rfl | hw
  · exact ⟨h, good_of_word (wAll_good h)⟩
  · exact ⟨hw, good_of_word (wAll_good hw)⟩
theorem gAll1 {ws : List Cond} {w : Cond} (h : w ∈ wAll) (g : GoodIn wAll ws) : GoodIn wAll (w :: ws) := fun x hx => by
  rcases List.mem_cons.mp hx with rfl | hx
  · exact ⟨h, good_of_word (wAll_good h)⟩
  · exact g x hx
theorem Pm_blind {κ : Kt} {av : List Value} {w : va_W} {sz : Nat} : FrameBlind (Pm κ av w sz) := by
  intro a U g mk h
  obtain ⟨h1, h2, h3, h4, h5⟩ := h
  exact ⟨h1, h2, Ev.same (s := U) rfl h3, h4, h5⟩
section GMW
variable {p : Program} {l : Launch} {e : Env} {R : Room} {s : State} {m : MethodId} {args : Array Value} {below : List Frame} {meth : Method} {c : Code} {H : Heap} {locs : List Loc} {cells slots : Nat} {Q : State → Prop}
/-- what stays true all through a method's body -/
def Cx (κ : Kt) (p : Program) (m : MethodId) (c : Code) (cc : ByteArray) (nL : Nat) (s : State) (args : Array Value) (own : String) (meth : Method) (ret : Option FieldType) (A : Nat → Prop) : Prop :=
  CallFix p m c cc nL s args wAll own ∧ Ev κ s s.heap ∧ (∀ q, A q → κ.2.2 ≤ q) ∧ (∀ q, s.heap.size ≤ q → A q) ∧ meth.sig.returnType = ret ∧ meth.locks = false
/-- the world within the body, now -/
def Bd (κ : Kt) (A : Nat → Prop) (s : State) (w : va_W) (H : Heap) (locs : List Loc) : Prop := va_P κ.1 vwCl w H ∧ va_D A w ∧ va_S A s.heap H locs
variable {κ : Kt} {cc : ByteArray} {nL : Nat} {own : String} {ret : Option FieldType} {A : Nat → Prop} {w : va_W}
theorem Cx.env (hX : Cx κ p m c cc nL s args own meth ret A) (hS : va_S A s.heap H locs) : Ev κ s H := hX.2.1.kept hS.1 (fun a h1 h2 => hS.2.1 a h1 (fun h => h2 (hX.2.2.1 a h)))
theorem Cx.D (hX : Cx κ p m c cc nL s args own meth ret A) (hD : va_D A w) : va_D (Az κ) w := hD.weaken (fun _ q _ h => hX.2.2.1 q.1 h)

/-- the end of a body -/
def Zm (κ : Kt) (below : List Frame) (w0 : va_W) (post : Option Value → va_W → Prop) (a : Array Value) (s : State) (mc ms : Nat) : State → Prop := MQ below (Qm κ w0 post s.heap.size) a s mc ms (Ac w0 s.heap.size)
theorem CM_start {y : MethodName} {fr lo mc ms : Nat} {av : List Value} {post : Option Value → va_W → Prop} (hy : plainFor y = true) (hn : (lg_sl av).length ≤ nL)
    (body : ∀ (p : Program) (e : Env) (s : State) (m : MethodId) (below : List Frame) (meth : Method) (c : Code) (A : Nat → Prop), Cx κ p m c cc nL s av.toArray y.cls meth ret A → meth.name = y.name → (∀ q, A q → Fw w q ∨ s.heap.size ≤ q) → Bd κ A s w s.heap [] → ∀ ls : Array Slot, lv_has ls nL (lv_args 0 av) →
      W p l e (Rm fr lo mc ms) s m av.toArray below meth c s.heap [] 0 0 (Zm κ below w post av.toArray s mc ms) (F0 m 0 ls [])) : CM κ l y cc nL ret fr lo mc ms av w post := by
  intro sz
  refine va_MetF (cc := cc) (maxL := nL) (ret := ret) hy rfl ?_
  intro p e s m args below meth c s₁ B hml hv
  obtain ⟨rfl, hsz, hE, hP, hD⟩ := hv
  subst hsz
  have hts := atoms_spec (ws := Cond.code y cc nL ret :: wAll) B.pre
  have hown : s.vm.findClass y.cls = some m.cls := findClass_of_methodNamed B.named
  have hl := lv_entry av hn
  rw [lg_entry_eq]
  generalize (lg_sl av ++ List.replicate (nL - (lg_sl av).length) Slot.unset).toArray = ls at hl ⊢
  exact body p e s m below meth c (Ac w s.heap.size) ⟨⟨B.exec, B.bytes, hml, hown, fun x hx => hts x (List.mem_cons_of_mem _ hx)⟩, hE, fun q hq => hq.elim (fun h => D_of hD h) (fun h => Nat.le_trans hE.2.2.2 h), fun q h => Or.inr h, B.returns, B.notSynchronized⟩ (name_of_methodNamed B.named B.method).1 (fun q h => h) ⟨hP, ⟨hD.1, fun k q hk => Or.inl ⟨q.2, List.mem_of_getElem? hk⟩⟩, va_S.rf⟩ ls hl
theorem CM_begin {y : MethodName} {fr lo mc ms : Nat} {av : List Value} {post : Option Value → va_W → Prop} (hy : plainFor y = true) (hn : (lg_sl av).length ≤ nL)
    (body : ∀ (p : Program) (e : Env) (s : State) (m : MethodId) (args : Array Value) (below : List Frame) (meth : Method) (c : Code) (A : Nat → Prop) (Q : State → Prop), Cx κ p m c cc nL s args y.cls meth ret A → meth.name = y.name → (∀ q, A q → Fw w q ∨ s.heap.size ≤ q) → Zm κ below w post args s mc ms = Q → Bd κ A s w s.heap [] → ∀ ls : Array Slot, lv_has ls nL (lv_args 0 av) →
      W p l e (Rm fr lo mc ms) s m args below meth c s.heap [] 0 0 Q (F0 m 0 ls [])) : CM κ l y cc nL ret fr lo mc ms av w post :=
  CM_start hy hn (fun p e s m below meth c A hX hnm hA3 hB ls hl => body p e s m _ below meth c A _ hX hnm hA3 rfl hB ls hl)
/-- behind a call -/
theorem CM_after {post : Option Value → va_W → Prop} {mc ms pc : Nat} {ls : Array Slot} {rest st0 : List Value} {a : Array Value} (hX : Cx κ p m c cc nL s args own meth ret A) (hB : Bd κ A s w H locs)
    (hr : va_Run p l e R s m args below meth c H locs cells slots mc ms (F0 m pc ls st0) rest (Qm κ w post H.size a) (Ac w H.size))
    (kk : ∀ (r : Option Value) (w' : va_W) (H1 : Heap) (locs1 : List Loc), post r w' → Bd κ A s w' H1 locs1 → W p l e R s m args below meth c H1 locs1 (cells + mc) (slots + ms) Q (F0 m (pc + 3) ls (r.toList ++ rest))) : W p l e R s m args below meth c H locs cells slots Q (F0 m pc ls st0) := by
  intro T hT X
  obtain ⟨v, st₀, t, T', L, h0, X', hL, e1, e2, ⟨⟨r, w', hv, hp, hP, hD⟩, hz, hk⟩, st⟩ := hr T hT X
  cases hv
  rw [h0] at hz hk
  obtain ⟨hP0, hD0, hS⟩ := hB
  have hf : ∀ q, Ac w H.size q → A q := fun q h => h.elim (fun h => D_of hD0 h) (fun h => hX.2.2.2.1 q (Nat.le_trans hS.1 h))
  obtain ⟨t2, a1, b1⟩ := kk v w' T'.heap (locs ++ L) hp ⟨by rw [e1]; exact hP, hD.weaken (fun _ q _ h => hf q.1 h), ⟨Nat.le_trans hS.1 (by rw [e1]; exact hz), fun q h1 h2 => by rw [e1, hk q (Nat.lt_of_lt_of_le h1 hS.1) (fun z => h2 (hf q z))]; exact hS.2.1 q h1 h2, fun q hq => by
      rcases List.mem_append.mp hq with h | h
      · exact hS.2.2 q h
      · exact hf _ (hL q h)⟩⟩ T' rfl X'
  exact ⟨t2, st t2 a1, b1⟩
theorem Pm_at (hX : Cx κ p m c cc nL s args own meth ret A) (hB : Bd κ A s w H locs) {av : List Value} : ∀ U : State, U.heap = H → s.WarmedH U.vm → Pm κ av w H.size av.toArray U := by
  intro U hU hW
  obtain ⟨hP, hD, hS⟩ := hB
  subst hU
  exact ⟨rfl, rfl, (Cx.env hX hS).warm hW, hP, Cx.D hX hD⟩
/-- what the compiler says of a callee -/
abbrev Yk (y : MethodName) (n : Nat) : Prop := y.cls ≠ "java/lang/invoke/MethodHandle" ∧ y.cls ≠ "java/lang/invoke/VarHandle" ∧ (parseMethodDescriptor y.desc).map (fun d => d.parameters.length) = some n
theorem call_V {post : Option Value → va_W → Prop} {y : MethodName} {C : String} {bytes : ByteArray} {maxL fr lo mc ms n index pc b : Nat} {rt : Option FieldType} {ls : Array Slot} {As rest st0 : List Value} (hX : Cx κ p m c cc nL s args own meth ret A) (hB : Bd κ A s w H locs)
    (hM : CM κ l y bytes maxL rt fr lo mc ms (.ref b :: As) w post) (hy : y.cls = C ∧ Yk y n) (m1 : Cond.methodLink own index y ∈ wAll) (m2 : Cond.instanceMethod y ∈ wAll) (m3 : Cond.selects C y y ∈ wAll) (m4 : Cond.initialized C ∈ wAll) (m5 : Cond.code y bytes maxL rt ∈ wAll)
    (hR : fr + 1 ≤ R.frames ∧ 8 + (maxL + 11) + lo ≤ R.locals) (hf : cells + mc ≤ R.cells ∧ slots + ms ≤ R.slots) {k0 ci : Nat} {q : vw_C} {fs : List Value} (he : w[k0]? = some (b, .inr (ci, fs))) (hc : vwCl[ci]? = some q) (hq : q.1 = C)
    (hn : As.length = n) (hl : ls.size = nL) (hst : st0 = As.reverse ++ .ref b :: rest) (hcat : (rest.map fun v => v.category).sum ≤ 8) (hdg : decode cc pc = .ok (.invokevirtual index, 3))
    (kk : ∀ (r : Option Value) (w' : va_W) (H1 : Heap) (locs1 : List Loc), post r w' → Bd κ A s w' H1 locs1 → W p l e R s m args below meth c H1 locs1 (cells + mc) (slots + ms) Q (F0 m (pc + 3) ls (r.toList ++ rest))) : W p l e R s m args below meth c H locs cells slots Q (F0 m pc ls st0) := by
  refine CM_after hX hB (va_runV (As := As) (rest := rest) (nL := nL) (own := own) (C := C) (b := b) hX.1 (hM H.size) (cwV n hX.1.2.2.2.2 (gAll1 m1 (gAll1 m2 (gAll1 m3 (gAll1 m4 (gAll m5))))) rfl rfl rfl ⟨hy.1, hy.2⟩ hR) ⟨Pm_blind, ?_, Pm_at hX hB⟩ rfl hn hl hst (lv_room hcat) hdg hf) kk
  obtain ⟨cell, z1, z2, z3⟩ := va_recv hX.2.1.1 hB.1 hc he
  exact ⟨cell, z1, z2, by rw [← hq]; exact z3⟩
theorem call_S {post : Option Value → va_W → Prop} {y : MethodName} {bytes : ByteArray} {maxL fr lo mc ms n index pc : Nat} {rt : Option FieldType} {ls : Array Slot} {As rest st0 : List Value} (hX : Cx κ p m c cc nL s args own meth ret A) (hB : Bd κ A s w H locs)
    (hM : CM κ l y bytes maxL rt fr lo mc ms As w post) (hy : Yk y n) (m1 : Cond.methodLink own index y ∈ wAll) (m2 : Cond.static y ∈ wAll) (m4 : Cond.initialized y.cls ∈ wAll) (m5 : Cond.code y bytes maxL rt ∈ wAll)
    (hR : fr + 1 ≤ R.frames ∧ 8 + (maxL + 11) + lo ≤ R.locals) (hf : cells + mc ≤ R.cells ∧ slots + ms ≤ R.slots)
    (hn : As.length = n) (hl : ls.size = nL) (hst : st0 = As.reverse ++ rest) (hcat : (rest.map fun v => v.category).sum ≤ 8) (hdg : decode cc pc = .ok (.invokestatic index, 3))
    (kk : ∀ (r : Option Value) (w' : va_W) (H1 : Heap) (locs1 : List Loc), post r w' → Bd κ A s w' H1 locs1 → W p l e R s m args below meth c H1 locs1 (cells + mc) (slots + ms) Q (F0 m (pc + 3) ls (r.toList ++ rest))) : W p l e R s m args below meth c H locs cells slots Q (F0 m pc ls st0) := by
  have ht := hX.1.2.2.2.2
  exact CM_after hX hB (va_runS (As := As) (rest := rest) (nL := nL) (own := own) hX.1 (hM H.size) ⟨callB_of n ht (gAll m5) rfl rfl rfl (ht _ m4) (ht _ m1) hy hR, ht _ m2⟩ ⟨Pm_blind, Pm_at hX hB⟩ rfl hn hl hst (lv_room hcat) hdg hf) kk
theorem call_SN {post : Option Value → va_W → Prop} {y : MethodName} {host : String} {bytes : ByteArray} {maxL fr lo mc ms n index pc : Nat} {rt : Option FieldType} {ls : Array Slot} {As rest st0 : List Value} (hX : Cx κ p m c cc nL s args own meth ret A) (hB : Bd κ A s w H locs)
    (hM : CM κ l y bytes maxL rt fr lo mc ms As w post) (hy : Yk y n) (m1 : Cond.methodLinkNest own index y host ∈ wNest) (m2 : Cond.static y ∈ wAll) (m4 : Cond.initialized y.cls ∈ wAll) (m5 : Cond.code y bytes maxL rt ∈ wAll)
    (hR : fr + 1 ≤ R.frames ∧ 8 + (maxL + 11) + lo ≤ R.locals) (hf : cells + mc ≤ R.cells ∧ slots + ms ≤ R.slots)
    (hn : As.length = n) (hl : ls.size = nL) (hst : st0 = As.reverse ++ rest) (hcat : (rest.map fun v => v.category).sum ≤ 8) (hdg : decode cc pc = .ok (.invokestatic index, 3))
    (kk : ∀ (r : Option Value) (w' : va_W) (H1 : Heap) (locs1 : List Loc), post r w' → Bd κ A s w' H1 locs1 → W p l e R s m args below meth c H1 locs1 (cells + mc) (slots + ms) Q (F0 m (pc + 3) ls (r.toList ++ rest))) : W p l e R s m args below meth c H locs cells slots Q (F0 m pc ls st0) := by
  have ht := hX.1.2.2.2.2
  exact CM_after hX hB (va_runSN (As := As) (rest := rest) (nL := nL) (own := own) (host := host) hX.1 (hM H.size) ⟨va_cnB n ht (gAll m5) rfl rfl rfl (hX.2.1.2.1.use m1) (ht _ m4) hy hR, ht _ m2, trivial⟩ ⟨Pm_blind, Pm_at hX hB⟩ rfl hn hl hst (lv_room hcat) hdg hf) kk
theorem call_I {post : Option Value → va_W → Prop} {y : MethodName} {bytes : ByteArray} {maxL fr lo mc ms n index pc b : Nat} {ls : Array Slot} {As rest st0 : List Value} (hX : Cx κ p m c cc nL s args own meth ret A) (hB : Bd κ A s w H locs)
    (hM : CM κ l y bytes maxL none fr lo mc ms (.ref b :: As) w post) (hy : Yk y n) (hy1 : y.name = "<init>") (m1 : Cond.methodLink own index y ∈ wAll) (m2 : Cond.instanceMethod y ∈ wAll) (m4 : Cond.initialized y.cls ∈ wAll) (m5 : Cond.code y bytes maxL none ∈ wAll)
    (hR : fr + 1 ≤ R.frames ∧ 8 + (maxL + 11) + lo ≤ R.locals) (hf : cells + mc ≤ R.cells ∧ slots + ms ≤ R.slots)
    (hn : As.length = n) (hl : ls.size = nL) (hst : st0 = As.reverse ++ .ref b :: rest) (hcat : (rest.map fun v => v.category).sum ≤ 8) (hdg : decode cc pc = .ok (.invokespecial index, 3))
    (kk : ∀ (r : Option Value) (w' : va_W) (H1 : Heap) (locs1 : List Loc), post r w' → Bd κ A s w' H1 locs1 → W p l e R s m args below meth c H1 locs1 (cells + mc) (slots + ms) Q (F0 m (pc + 3) ls (r.toList ++ rest))) : W p l e R s m args below meth c H locs cells slots Q (F0 m pc ls st0) := by
  have ht := hX.1.2.2.2.2
  exact CM_after hX hB (va_runI (As := As) (rest := rest) (nL := nL) (own := own) (b := b) hX.1 (hM H.size) ⟨callB_of n ht (gAll m5) rfl rfl rfl (ht _ m4) (ht _ m1) hy hR, hy1, ht _ m2⟩ ⟨Pm_blind, Pm_at hX hB⟩ rfl hn hl hst (lv_room hcat) hdg hf) kk
theorem call_IN {post : Option Value → va_W → Prop} {y : MethodName} {host : String} {bytes : ByteArray} {maxL fr lo mc ms n index pc b : Nat} {ls : Array Slot} {As rest st0 : List Value} (hX : Cx κ p m c cc nL s args own meth ret A) (hB : Bd κ A s w H locs)
    (hM : CM κ l y bytes maxL none fr lo mc ms (.ref b :: As) w post) (hy : Yk y n) (hy1 : y.name = "<init>") (m1 : Cond.methodLinkNest own index y host ∈ wNest) (m2 : Cond.instanceMethod y ∈ wAll) (m4 : Cond.initialized y.cls ∈ wAll) (m5 : Cond.code y bytes maxL none ∈ wAll)
    (hR : fr + 1 ≤ R.frames ∧ 8 + (maxL + 11) + lo ≤ R.locals) (hf : cells + mc ≤ R.cells ∧ slots + ms ≤ R.slots)
    (hn : As.length = n) (hl : ls.size = nL) (hst : st0 = As.reverse ++ .ref b :: rest) (hcat : (rest.map fun v => v.category).sum ≤ 8) (hdg : decode cc pc = .ok (.invokespecial index, 3))
    (kk : ∀ (r : Option Value) (w' : va_W) (H1 : Heap) (locs1 : List Loc), post r w' → Bd κ A s w' H1 locs1 → W p l e R s m args below meth c H1 locs1 (cells + mc) (slots + ms) Q (F0 m (pc + 3) ls (r.toList ++ rest))) : W p l e R s m args below meth c H locs cells slots Q (F0 m pc ls st0) := by
  have ht := hX.1.2.2.2.2
  exact CM_after hX hB (va_runIN (As := As) (rest := rest) (nL := nL) (own := own) (host := host) (b := b) hX.1 (hM H.size) ⟨va_cnB n ht (gAll m5) rfl rfl rfl (hX.2.1.2.1.use m1) (ht _ m4) hy hR, hy1, ht _ m2⟩ ⟨Pm_blind, Pm_at hX hB⟩ rfl hn hl hst (lv_room hcat) hdg hf) kk
end GMW
end
section
-- 10z.yk
section YK
theorem nh_RJ0 : RJ0 ≠ "java/lang/invoke/MethodHandle" ∧ RJ0 ≠ "java/lang/invoke/VarHandle" := ⟨by decide +kernel, by decide +kernel⟩
theorem pn_RJ0 : plainName RJ0 = true := by decide +kernel
theorem nh_RJ1 : RJ1 ≠ "java/lang/invoke/MethodHandle" ∧ RJ1 ≠ "java/lang/invoke/VarHandle" := ⟨by decide +kernel, by decide +kernel⟩
theorem pn_RJ1 : plainName RJ1 = true := by decide +kernel
theorem nh_RJ13 : RJ13 ≠ "java/lang/invoke/MethodHandle" ∧ RJ13 ≠ "java/lang/invoke/VarHandle" := ⟨by decide +kernel, by decide +kernel⟩
theorem pn_RJ13 : plainName RJ13 = true := by decide +kernel
theorem nh_RJ4 : RJ4 ≠ "java/lang/invoke/MethodHandle" ∧ RJ4 ≠ "java/lang/invoke/VarHandle" := ⟨by decide +kernel, by decide +kernel⟩
theorem pn_RJ4 : plainName RJ4 = true := by decide +kernel
theorem nh_RJ5 : RJ5 ≠ "java/lang/invoke/MethodHandle" ∧ RJ5 ≠ "java/lang/invoke/VarHandle" := ⟨by decide +kernel, by decide +kernel⟩
theorem pn_RJ5 : plainName RJ5 = true := by decide +kernel
theorem nh_RJ6 : RJ6 ≠ "java/lang/invoke/MethodHandle" ∧ RJ6 ≠ "java/lang/invoke/VarHandle" := ⟨by decide +kernel, by decide +kernel⟩
theorem pn_RJ6 : plainName RJ6 = true := by decide +kernel
theorem nh_RJ7 : RJ7 ≠ "java/lang/invoke/MethodHandle" ∧ RJ7 ≠ "java/lang/invoke/VarHandle" := ⟨by decide +kernel, by decide +kernel⟩
theorem pn_RJ7 : plainName RJ7 = true := by decide +kernel
theorem nh_RJ8 : RJ8 ≠ "java/lang/invoke/MethodHandle" ∧ RJ8 ≠ "java/lang/invoke/VarHandle" := ⟨by decide +kernel, by decide +kernel⟩
theorem pn_RJ8 : plainName RJ8 = true := by decide +kernel
theorem nh_RJ9 : RJ9 ≠ "java/lang/invoke/MethodHandle" ∧ RJ9 ≠ "java/lang/invoke/VarHandle" := ⟨by decide +kernel, by decide +kernel⟩
theorem nh_RL : RL ≠ "java/lang/invoke/MethodHandle" ∧ RL ≠ "java/lang/invoke/VarHandle" := ⟨by decide +kernel, by decide +kernel⟩
theorem nh_RX0 : RX0 ≠ "java/lang/invoke/MethodHandle" ∧ RX0 ≠ "java/lang/invoke/VarHandle" := ⟨by decide +kernel, by decide +kernel⟩
theorem pn_RX0 : plainName RX0 = true := by decide +kernel
theorem nh_RX1 : RX1 ≠ "java/lang/invoke/MethodHandle" ∧ RX1 ≠ "java/lang/invoke/VarHandle" := ⟨by decide +kernel, by decide +kernel⟩
theorem pn_RX1 : plainName RX1 = true := by decide +kernel
theorem nh_RX10 : RX10 ≠ "java/lang/invoke/MethodHandle" ∧ RX10 ≠ "java/lang/invoke/VarHandle" := ⟨by decide +kernel, by decide +kernel⟩
theorem pn_RX10 : plainName RX10 = true := by decide +kernel
theorem nh_RX2 : RX2 ≠ "java/lang/invoke/MethodHandle" ∧ RX2 ≠ "java/lang/invoke/VarHandle" := ⟨by decide +kernel, by decide +kernel⟩
theorem pn_RX2 : plainName RX2 = true := by decide +kernel
theorem nh_RX3 : RX3 ≠ "java/lang/invoke/MethodHandle" ∧ RX3 ≠ "java/lang/invoke/VarHandle" := ⟨by decide +kernel, by decide +kernel⟩
theorem pn_RX3 : plainName RX3 = true := by decide +kernel
theorem nh_RX4 : RX4 ≠ "java/lang/invoke/MethodHandle" ∧ RX4 ≠ "java/lang/invoke/VarHandle" := ⟨by decide +kernel, by decide +kernel⟩
theorem pn_RX4 : plainName RX4 = true := by decide +kernel
theorem nh_RX5 : RX5 ≠ "java/lang/invoke/MethodHandle" ∧ RX5 ≠ "java/lang/invoke/VarHandle" := ⟨by decide +kernel, by decide +kernel⟩
theorem pn_RX5 : plainName RX5 = true := by decide +kernel
theorem nh_RX6 : RX6 ≠ "java/lang/invoke/MethodHandle" ∧ RX6 ≠ "java/lang/invoke/VarHandle" := ⟨by decide +kernel, by decide +kernel⟩
theorem pn_RX6 : plainName RX6 = true := by decide +kernel
theorem nh_RX7 : RX7 ≠ "java/lang/invoke/MethodHandle" ∧ RX7 ≠ "java/lang/invoke/VarHandle" := ⟨by decide +kernel, by decide +kernel⟩
theorem pn_RX7 : plainName RX7 = true := by decide +kernel
theorem nh_RX8 : RX8 ≠ "java/lang/invoke/MethodHandle" ∧ RX8 ≠ "java/lang/invoke/VarHandle" := ⟨by decide +kernel, by decide +kernel⟩
theorem pn_RX8 : plainName RX8 = true := by decide +kernel
theorem nh_RX9 : RX9 ≠ "java/lang/invoke/MethodHandle" ∧ RX9 ≠ "java/lang/invoke/VarHandle" := ⟨by decide +kernel, by decide +kernel⟩
theorem pn_RX9 : plainName RX9 = true := by decide +kernel
theorem yk_J0_coder_7d493 : Yk yJ0_coder_7d493 0 := ⟨nh_RJ0.1, nh_RJ0.2, by decide +kernel⟩
theorem yk_J0_getBytes_840e7 : Yk yJ0_getBytes_840e7 3 := ⟨nh_RJ0.1, nh_RJ0.2, by decide +kernel⟩
theorem yk_J0_init_81219 : Yk yJ0_init_81219 1 := ⟨nh_RJ0.1, nh_RJ0.2, by decide +kernel⟩
theorem yk_J0_init_db425 : Yk yJ0_init_db425 2 := ⟨nh_RJ0.1, nh_RJ0.2, by decide +kernel⟩
theorem yk_J0_length_8abf5 : Yk yJ0_length_8abf5 0 := ⟨nh_RJ0.1, nh_RJ0.2, by decide +kernel⟩
theorem yk_J13_getChars_11360 : Yk yJ13_getChars_11360 3 := ⟨nh_RJ13.1, nh_RJ13.2, by decide +kernel⟩
theorem yk_J13_stringSize_95d88 : Yk yJ13_stringSize_95d88 1 := ⟨nh_RJ13.1, nh_RJ13.2, by decide +kernel⟩
theorem yk_J1_canEncode_fc78d : Yk yJ1_canEncode_fc78d 1 := ⟨nh_RJ1.1, nh_RJ1.2, by decide +kernel⟩
theorem yk_J4_append_15ec4 : Yk yJ4_append_15ec4 1 := ⟨nh_RJ4.1, nh_RJ4.2, by decide +kernel⟩
theorem yk_J4_append_bf812 : Yk yJ4_append_bf812 1 := ⟨nh_RJ4.1, nh_RJ4.2, by decide +kernel⟩
theorem yk_J4_append_cf468 : Yk yJ4_append_cf468 1 := ⟨nh_RJ4.1, nh_RJ4.2, by decide +kernel⟩
theorem yk_J4_append_f7089 : Yk yJ4_append_f7089 1 := ⟨nh_RJ4.1, nh_RJ4.2, by decide +kernel⟩
theorem yk_J4_init_da8c8 : Yk yJ4_init_da8c8 0 := ⟨nh_RJ4.1, nh_RJ4.2, by decide +kernel⟩
theorem yk_J4_length_8abf5 : Yk yJ4_length_8abf5 0 := ⟨nh_RJ4.1, nh_RJ4.2, by decide +kernel⟩
theorem yk_J4_toString_0e30d : Yk yJ4_toString_0e30d 0 := ⟨nh_RJ4.1, nh_RJ4.2, by decide +kernel⟩
theorem yk_J5_ensureCapacityInternal_d00df : Yk yJ5_ensureCapacityInternal_d00df 1 := ⟨nh_RJ5.1, nh_RJ5.2, by decide +kernel⟩
theorem yk_J5_getValue_6d5f1 : Yk yJ5_getValue_6d5f1 0 := ⟨nh_RJ5.1, nh_RJ5.2, by decide +kernel⟩
theorem yk_J5_inflateIfNeededFor_a7421 : Yk yJ5_inflateIfNeededFor_a7421 1 := ⟨nh_RJ5.1, nh_RJ5.2, by decide +kernel⟩
theorem yk_J5_init_d00df : Yk yJ5_init_d00df 1 := ⟨nh_RJ5.1, nh_RJ5.2, by decide +kernel⟩
theorem yk_J5_isLatin1_aae02 : Yk yJ5_isLatin1_aae02 0 := ⟨nh_RJ5.1, nh_RJ5.2, by decide +kernel⟩
theorem yk_J5_newCapacity_0f7a4 : Yk yJ5_newCapacity_0f7a4 1 := ⟨nh_RJ5.1, nh_RJ5.2, by decide +kernel⟩
theorem yk_J5_putStringAt_47b60 : Yk yJ5_putStringAt_47b60 2 := ⟨nh_RJ5.1, nh_RJ5.2, by decide +kernel⟩
theorem yk_J6_bitCount_0f7a4 : Yk yJ6_bitCount_0f7a4 1 := ⟨nh_RJ6.1, nh_RJ6.2, by decide +kernel⟩
theorem yk_J6_getChars_ba4f3 : Yk yJ6_getChars_ba4f3 3 := ⟨nh_RJ6.1, nh_RJ6.2, by decide +kernel⟩
theorem yk_J6_numberOfTrailingZeros_0f7a4 : Yk yJ6_numberOfTrailingZeros_0f7a4 1 := ⟨nh_RJ6.1, nh_RJ6.2, by decide +kernel⟩
theorem yk_J6_stringSize_0f7a4 : Yk yJ6_stringSize_0f7a4 1 := ⟨nh_RJ6.1, nh_RJ6.2, by decide +kernel⟩
theorem yk_J7_checkLength_df160 : Yk yJ7_checkLength_df160 2 := ⟨nh_RJ7.1, nh_RJ7.2, by decide +kernel⟩
theorem yk_J7_copyOfRangeByte_39247 : Yk yJ7_copyOfRangeByte_39247 3 := ⟨nh_RJ7.1, nh_RJ7.2, by decide +kernel⟩
theorem yk_J7_copyOfRange_39247 : Yk yJ7_copyOfRange_39247 3 := ⟨nh_RJ7.1, nh_RJ7.2, by decide +kernel⟩
theorem yk_J7_copyOf_9075b : Yk yJ7_copyOf_9075b 2 := ⟨nh_RJ7.1, nh_RJ7.2, by decide +kernel⟩
theorem yk_J8_newLength_cabcc : Yk yJ8_newLength_cabcc 3 := ⟨nh_RJ8.1, nh_RJ8.2, by decide +kernel⟩
theorem yk_J9_floorDiv_f86c9 : Yk yJ9_floorDiv_f86c9 2 := ⟨nh_RJ9.1, nh_RJ9.2, by decide +kernel⟩
theorem yk_J9_floorMod_f86c9 : Yk yJ9_floorMod_f86c9 2 := ⟨nh_RJ9.1, nh_RJ9.2, by decide +kernel⟩
theorem yk_L_add : Yk yL_add 7 := ⟨nh_RL.1, nh_RL.2, by decide +kernel⟩
theorem yk_L_at : Yk yL_at 5 := ⟨nh_RL.1, nh_RL.2, by decide +kernel⟩
theorem yk_L_change : Yk yL_change 4 := ⟨nh_RL.1, nh_RL.2, by decide +kernel⟩
theorem yk_L_copy : Yk yL_copy 4 := ⟨nh_RL.1, nh_RL.2, by decide +kernel⟩
theorem yk_L_determinant : Yk yL_determinant 4 := ⟨nh_RL.1, nh_RL.2, by decide +kernel⟩
theorem yk_L_divisor : Yk yL_divisor 4 := ⟨nh_RL.1, nh_RL.2, by decide +kernel⟩
theorem yk_L_drop : Yk yL_drop 5 := ⟨nh_RL.1, nh_RL.2, by decide +kernel⟩
theorem yk_L_exchange : Yk yL_exchange 6 := ⟨nh_RL.1, nh_RL.2, by decide +kernel⟩
theorem yk_L_flip : Yk yL_flip 3 := ⟨nh_RL.1, nh_RL.2, by decide +kernel⟩
theorem yk_L_house : Yk yL_house 3 := ⟨nh_RL.1, nh_RL.2, by decide +kernel⟩
theorem yk_L_isSame : Yk yL_isSame 4 := ⟨nh_RL.1, nh_RL.2, by decide +kernel⟩
theorem yk_L_isSolvable : Yk yL_isSolvable 6 := ⟨nh_RL.1, nh_RL.2, by decide +kernel⟩
theorem yk_L_make : Yk yL_make 5 := ⟨nh_RL.1, nh_RL.2, by decide +kernel⟩
theorem yk_L_minor : Yk yL_minor 5 := ⟨nh_RL.1, nh_RL.2, by decide +kernel⟩
theorem yk_L_multiply : Yk yL_multiply 5 := ⟨nh_RL.1, nh_RL.2, by decide +kernel⟩
theorem yk_L_put : Yk yL_put 6 := ⟨nh_RL.1, nh_RL.2, by decide +kernel⟩
theorem yk_L_rank : Yk yL_rank 4 := ⟨nh_RL.1, nh_RL.2, by decide +kernel⟩
theorem yk_L_rest : Yk yL_rest 4 := ⟨nh_RL.1, nh_RL.2, by decide +kernel⟩
theorem yk_L_restColumn : Yk yL_restColumn 5 := ⟨nh_RL.1, nh_RL.2, by decide +kernel⟩
theorem yk_L_restOf : Yk yL_restOf 5 := ⟨nh_RL.1, nh_RL.2, by decide +kernel⟩
theorem yk_L_shape : Yk yL_shape 4 := ⟨nh_RL.1, nh_RL.2, by decide +kernel⟩
theorem yk_L_solve : Yk yL_solve 6 := ⟨nh_RL.1, nh_RL.2, by decide +kernel⟩
theorem yk_L_sow : Yk yL_sow 5 := ⟨nh_RL.1, nh_RL.2, by decide +kernel⟩
theorem yk_L_sum : Yk yL_sum 6 := ⟨nh_RL.1, nh_RL.2, by decide +kernel⟩
theorem yk_L_swap : Yk yL_swap 4 := ⟨nh_RL.1, nh_RL.2, by decide +kernel⟩
theorem yk_L_take : Yk yL_take 5 := ⟨nh_RL.1, nh_RL.2, by decide +kernel⟩
theorem yk_L_text : Yk yL_text 3 := ⟨nh_RL.1, nh_RL.2, by decide +kernel⟩
theorem yk_L_told : Yk yL_told 6 := ⟨nh_RL.1, nh_RL.2, by decide +kernel⟩
theorem yk_L_turn : Yk yL_turn 5 := ⟨nh_RL.1, nh_RL.2, by decide +kernel⟩
theorem yk_L_unit : Yk yL_unit 4 := ⟨nh_RL.1, nh_RL.2, by decide +kernel⟩
theorem yk_L_widen : Yk yL_widen 4 := ⟨nh_RL.1, nh_RL.2, by decide +kernel⟩
theorem yk_X0_byFirstRow : Yk yX0_byFirstRow 1 := ⟨nh_RX0.1, nh_RX0.2, by decide +kernel⟩
theorem yk_X0_bySequences : Yk yX0_bySequences 3 := ⟨nh_RX0.1, nh_RX0.2, by decide +kernel⟩
theorem yk_X0_findDivisor : Yk yX0_findDivisor 2 := ⟨nh_RX0.1, nh_RX0.2, by decide +kernel⟩
theorem yk_X0_findRank : Yk yX0_findRank 1 := ⟨nh_RX0.1, nh_RX0.2, by decide +kernel⟩
theorem yk_X0_ofRest : Yk yX0_ofRest 4 := ⟨nh_RX0.1, nh_RX0.2, by decide +kernel⟩
theorem yk_X10_add : Yk yX10_add 5 := ⟨nh_RX10.1, nh_RX10.2, by decide +kernel⟩
theorem yk_X10_at : Yk yX10_at 3 := ⟨nh_RX10.1, nh_RX10.2, by decide +kernel⟩
theorem yk_X10_become : Yk yX10_become 2 := ⟨nh_RX10.1, nh_RX10.2, by decide +kernel⟩
theorem yk_X10_bySequences : Yk yX10_bySequences 3 := ⟨nh_RX10.1, nh_RX10.2, by decide +kernel⟩
theorem yk_X10_change : Yk yX10_change 2 := ⟨nh_RX10.1, nh_RX10.2, by decide +kernel⟩
theorem yk_X10_changed : Yk yX10_changed 2 := ⟨nh_RX10.1, nh_RX10.2, by decide +kernel⟩
theorem yk_X10_column : Yk yX10_column 2 := ⟨nh_RX10.1, nh_RX10.2, by decide +kernel⟩
theorem yk_X10_copy : Yk yX10_copy 2 := ⟨nh_RX10.1, nh_RX10.2, by decide +kernel⟩
theorem yk_X10_determinant : Yk yX10_determinant 2 := ⟨nh_RX10.1, nh_RX10.2, by decide +kernel⟩
theorem yk_X10_determinantOf : Yk yX10_determinantOf 1 := ⟨nh_RX10.1, nh_RX10.2, by decide +kernel⟩
theorem yk_X10_digest : Yk yX10_digest 0 := ⟨nh_RX10.1, nh_RX10.2, by decide +kernel⟩
theorem yk_X10_divisor : Yk yX10_divisor 2 := ⟨nh_RX10.1, nh_RX10.2, by decide +kernel⟩
theorem yk_X10_drop : Yk yX10_drop 3 := ⟨nh_RX10.1, nh_RX10.2, by decide +kernel⟩
theorem yk_X10_exchange : Yk yX10_exchange 4 := ⟨nh_RX10.1, nh_RX10.2, by decide +kernel⟩
theorem yk_X10_flip : Yk yX10_flip 1 := ⟨nh_RX10.1, nh_RX10.2, by decide +kernel⟩
theorem yk_X10_flipped : Yk yX10_flipped 1 := ⟨nh_RX10.1, nh_RX10.2, by decide +kernel⟩
theorem yk_X10_gcd : Yk yX10_gcd 2 := ⟨nh_RX10.1, nh_RX10.2, by decide +kernel⟩
theorem yk_X10_goes : Yk yX10_goes 2 := ⟨nh_RX10.1, nh_RX10.2, by decide +kernel⟩
theorem yk_X10_house : Yk yX10_house 1 := ⟨nh_RX10.1, nh_RX10.2, by decide +kernel⟩
theorem yk_X10_houseNow : Yk yX10_houseNow 1 := ⟨nh_RX10.1, nh_RX10.2, by decide +kernel⟩
theorem yk_X10_init : Yk yX10_init 0 := ⟨nh_RX10.1, nh_RX10.2, by decide +kernel⟩
theorem yk_X10_isByDivisors : Yk yX10_isByDivisors 2 := ⟨nh_RX10.1, nh_RX10.2, by decide +kernel⟩
theorem yk_X10_isColumn : Yk yX10_isColumn 2 := ⟨nh_RX10.1, nh_RX10.2, by decide +kernel⟩
theorem yk_X10_isLine : Yk yX10_isLine 3 := ⟨nh_RX10.1, nh_RX10.2, by decide +kernel⟩
theorem yk_X10_isRow : Yk yX10_isRow 2 := ⟨nh_RX10.1, nh_RX10.2, by decide +kernel⟩
theorem yk_X10_isSame : Yk yX10_isSame 2 := ⟨nh_RX10.1, nh_RX10.2, by decide +kernel⟩
theorem yk_X10_isShort : Yk yX10_isShort 1 := ⟨nh_RX10.1, nh_RX10.2, by decide +kernel⟩
theorem yk_X10_isSolvable : Yk yX10_isSolvable 4 := ⟨nh_RX10.1, nh_RX10.2, by decide +kernel⟩
theorem yk_X10_isSound : Yk yX10_isSound 0 := ⟨nh_RX10.1, nh_RX10.2, by decide +kernel⟩
theorem yk_X10_isSoundNow : Yk yX10_isSoundNow 0 := ⟨nh_RX10.1, nh_RX10.2, by decide +kernel⟩
theorem yk_X10_isTable : Yk yX10_isTable 1 := ⟨nh_RX10.1, nh_RX10.2, by decide +kernel⟩
theorem yk_X10_isThrown : Yk yX10_isThrown 3 := ⟨nh_RX10.1, nh_RX10.2, by decide +kernel⟩
theorem yk_X10_isThrown_ : Yk yX10_isThrown_ 2 := ⟨nh_RX10.1, nh_RX10.2, by decide +kernel⟩
theorem yk_X10_isThrown__ : Yk yX10_isThrown__ 1 := ⟨nh_RX10.1, nh_RX10.2, by decide +kernel⟩
theorem yk_X10_knock : Yk yX10_knock 0 := ⟨nh_RX10.1, nh_RX10.2, by decide +kernel⟩
theorem yk_X10_lay : Yk yX10_lay 2 := ⟨nh_RX10.1, nh_RX10.2, by decide +kernel⟩
theorem yk_X10_leaving : Yk yX10_leaving 1 := ⟨nh_RX10.1, nh_RX10.2, by decide +kernel⟩
theorem yk_X10_make : Yk yX10_make 3 := ⟨nh_RX10.1, nh_RX10.2, by decide +kernel⟩
theorem yk_X10_minor : Yk yX10_minor 3 := ⟨nh_RX10.1, nh_RX10.2, by decide +kernel⟩
theorem yk_X10_multiply : Yk yX10_multiply 3 := ⟨nh_RX10.1, nh_RX10.2, by decide +kernel⟩
theorem yk_X10_no : Yk yX10_no 0 := ⟨nh_RX10.1, nh_RX10.2, by decide +kernel⟩
theorem yk_X10_put : Yk yX10_put 4 := ⟨nh_RX10.1, nh_RX10.2, by decide +kernel⟩
theorem yk_X10_rank : Yk yX10_rank 2 := ⟨nh_RX10.1, nh_RX10.2, by decide +kernel⟩
theorem yk_X10_rest : Yk yX10_rest 2 := ⟨nh_RX10.1, nh_RX10.2, by decide +kernel⟩
theorem yk_X10_restColumn : Yk yX10_restColumn 3 := ⟨nh_RX10.1, nh_RX10.2, by decide +kernel⟩
theorem yk_X10_restOf : Yk yX10_restOf 3 := ⟨nh_RX10.1, nh_RX10.2, by decide +kernel⟩
theorem yk_X10_shape : Yk yX10_shape 2 := ⟨nh_RX10.1, nh_RX10.2, by decide +kernel⟩
theorem yk_X10_shaped : Yk yX10_shaped 5 := ⟨nh_RX10.1, nh_RX10.2, by decide +kernel⟩
theorem yk_X10_solve : Yk yX10_solve 4 := ⟨nh_RX10.1, nh_RX10.2, by decide +kernel⟩
theorem yk_X10_sow : Yk yX10_sow 3 := ⟨nh_RX10.1, nh_RX10.2, by decide +kernel⟩
theorem yk_X10_sum : Yk yX10_sum 4 := ⟨nh_RX10.1, nh_RX10.2, by decide +kernel⟩
theorem yk_X10_swap : Yk yX10_swap 2 := ⟨nh_RX10.1, nh_RX10.2, by decide +kernel⟩
theorem yk_X10_take : Yk yX10_take 3 := ⟨nh_RX10.1, nh_RX10.2, by decide +kernel⟩
theorem yk_X10_text : Yk yX10_text 1 := ⟨nh_RX10.1, nh_RX10.2, by decide +kernel⟩
theorem yk_X10_thrown : Yk yX10_thrown 0 := ⟨nh_RX10.1, nh_RX10.2, by decide +kernel⟩
theorem yk_X10_told : Yk yX10_told 1 := ⟨nh_RX10.1, nh_RX10.2, by decide +kernel⟩
theorem yk_X10_toldOf : Yk yX10_toldOf 2 := ⟨nh_RX10.1, nh_RX10.2, by decide +kernel⟩
theorem yk_X10_told_ : Yk yX10_told_ 4 := ⟨nh_RX10.1, nh_RX10.2, by decide +kernel⟩
theorem yk_X10_turn : Yk yX10_turn 3 := ⟨nh_RX10.1, nh_RX10.2, by decide +kernel⟩
theorem yk_X10_unit : Yk yX10_unit 2 := ⟨nh_RX10.1, nh_RX10.2, by decide +kernel⟩
theorem yk_X10_widen : Yk yX10_widen 2 := ⟨nh_RX10.1, nh_RX10.2, by decide +kernel⟩
theorem yk_X1_addColumn : Yk yX1_addColumn 3 := ⟨nh_RX1.1, nh_RX1.2, by decide +kernel⟩
theorem yk_X1_addRow : Yk yX1_addRow 3 := ⟨nh_RX1.1, nh_RX1.2, by decide +kernel⟩
theorem yk_X1_bring : Yk yX1_bring 3 := ⟨nh_RX1.1, nh_RX1.2, by decide +kernel⟩
theorem yk_X1_clearCross : Yk yX1_clearCross 1 := ⟨nh_RX1.1, nh_RX1.2, by decide +kernel⟩
theorem yk_X1_countRank : Yk yX1_countRank 0 := ⟨nh_RX1.1, nh_RX1.2, by decide +kernel⟩
theorem yk_X1_findLeastPlace : Yk yX1_findLeastPlace 1 := ⟨nh_RX1.1, nh_RX1.2, by decide +kernel⟩
theorem yk_X1_findUndividedRow : Yk yX1_findUndividedRow 1 := ⟨nh_RX1.1, nh_RX1.2, by decide +kernel⟩
theorem yk_X1_init : Yk yX1_init 0 := ⟨nh_RX1.1, nh_RX1.2, by decide +kernel⟩
theorem yk_X1_isCrossClear : Yk yX1_isCrossClear 1 := ⟨nh_RX1.1, nh_RX1.2, by decide +kernel⟩
theorem yk_X1_walk : Yk yX1_walk 1 := ⟨nh_RX1.1, nh_RX1.2, by decide +kernel⟩
theorem yk_X2_divide : Yk yX2_divide 3 := ⟨nh_RX2.1, nh_RX2.2, by decide +kernel⟩
theorem yk_X2_findSolution : Yk yX2_findSolution 1 := ⟨nh_RX2.1, nh_RX2.2, by decide +kernel⟩
theorem yk_X2_init : Yk yX2_init 0 := ⟨nh_RX2.1, nh_RX2.2, by decide +kernel⟩
theorem yk_X3_addLine : Yk yX3_addLine 4 := ⟨nh_RX3.1, nh_RX3.2, by decide +kernel⟩
theorem yk_X3_becomeColumn : Yk yX3_becomeColumn 2 := ⟨nh_RX3.1, nh_RX3.2, by decide +kernel⟩
theorem yk_X3_becomeLike : Yk yX3_becomeLike 1 := ⟨nh_RX3.1, nh_RX3.2, by decide +kernel⟩
theorem yk_X3_becomeProduct : Yk yX3_becomeProduct 2 := ⟨nh_RX3.1, nh_RX3.2, by decide +kernel⟩
theorem yk_X3_becomeUnit : Yk yX3_becomeUnit 1 := ⟨nh_RX3.1, nh_RX3.2, by decide +kernel⟩
theorem yk_X3_countFilled : Yk yX3_countFilled 0 := ⟨nh_RX3.1, nh_RX3.2, by decide +kernel⟩
theorem yk_X3_countLines : Yk yX3_countLines 1 := ⟨nh_RX3.1, nh_RX3.2, by decide +kernel⟩
theorem yk_X3_countUnlike : Yk yX3_countUnlike 1 := ⟨nh_RX3.1, nh_RX3.2, by decide +kernel⟩
theorem yk_X3_exchangeLines : Yk yX3_exchangeLines 3 := ⟨nh_RX3.1, nh_RX3.2, by decide +kernel⟩
theorem yk_X3_get : Yk yX3_get 2 := ⟨nh_RX3.1, nh_RX3.2, by decide +kernel⟩
theorem yk_X3_hasLine : Yk yX3_hasLine 2 := ⟨nh_RX3.1, nh_RX3.2, by decide +kernel⟩
theorem yk_X3_init : Yk yX3_init 0 := ⟨nh_RX3.1, nh_RX3.2, by decide +kernel⟩
theorem yk_X3_isLike : Yk yX3_isLike 1 := ⟨nh_RX3.1, nh_RX3.2, by decide +kernel⟩
theorem yk_X3_isWithin : Yk yX3_isWithin 1 := ⟨nh_RX3.1, nh_RX3.2, by decide +kernel⟩
theorem yk_X3_mix : Yk yX3_mix 1 := ⟨nh_RX3.1, nh_RX3.2, by decide +kernel⟩
theorem yk_X3_reshape : Yk yX3_reshape 2 := ⟨nh_RX3.1, nh_RX3.2, by decide +kernel⟩
theorem yk_X3_set : Yk yX3_set 3 := ⟨nh_RX3.1, nh_RX3.2, by decide +kernel⟩
theorem yk_X3_takeOver : Yk yX3_takeOver 1 := ⟨nh_RX3.1, nh_RX3.2, by decide +kernel⟩
theorem yk_X3_turnLine : Yk yX3_turnLine 2 := ⟨nh_RX3.1, nh_RX3.2, by decide +kernel⟩
theorem yk_X4_bring : Yk yX4_bring 3 := ⟨nh_RX4.1, nh_RX4.2, by decide +kernel⟩
theorem yk_X4_clearColumn : Yk yX4_clearColumn 2 := ⟨nh_RX4.1, nh_RX4.2, by decide +kernel⟩
theorem yk_X4_countFilledRows : Yk yX4_countFilledRows 0 := ⟨nh_RX4.1, nh_RX4.2, by decide +kernel⟩
theorem yk_X4_findDeterminant : Yk yX4_findDeterminant 0 := ⟨nh_RX4.1, nh_RX4.2, by decide +kernel⟩
theorem yk_X4_findLeastRow : Yk yX4_findLeastRow 2 := ⟨nh_RX4.1, nh_RX4.2, by decide +kernel⟩
theorem yk_X4_init : Yk yX4_init 0 := ⟨nh_RX4.1, nh_RX4.2, by decide +kernel⟩
theorem yk_X4_isClearBelow : Yk yX4_isClearBelow 2 := ⟨nh_RX4.1, nh_RX4.2, by decide +kernel⟩
theorem yk_X4_takeOff : Yk yX4_takeOff 3 := ⟨nh_RX4.1, nh_RX4.2, by decide +kernel⟩
theorem yk_X4_walk : Yk yX4_walk 1 := ⟨nh_RX4.1, nh_RX4.2, by decide +kernel⟩
theorem yk_X5_add : Yk yX5_add 5 := ⟨nh_RX5.1, nh_RX5.2, by decide +kernel⟩
theorem yk_X5_at : Yk yX5_at 3 := ⟨nh_RX5.1, nh_RX5.2, by decide +kernel⟩
theorem yk_X5_change : Yk yX5_change 2 := ⟨nh_RX5.1, nh_RX5.2, by decide +kernel⟩
theorem yk_X5_copy : Yk yX5_copy 2 := ⟨nh_RX5.1, nh_RX5.2, by decide +kernel⟩
theorem yk_X5_countHouse : Yk yX5_countHouse 1 := ⟨nh_RX5.1, nh_RX5.2, by decide +kernel⟩
theorem yk_X5_countLikePairs : Yk yX5_countLikePairs 0 := ⟨nh_RX5.1, nh_RX5.2, by decide +kernel⟩
theorem yk_X5_determinant : Yk yX5_determinant 2 := ⟨nh_RX5.1, nh_RX5.2, by decide +kernel⟩
theorem yk_X5_digest : Yk yX5_digest 0 := ⟨nh_RX5.1, nh_RX5.2, by decide +kernel⟩
theorem yk_X5_divideDown : Yk yX5_divideDown 2 := ⟨nh_RX5.1, nh_RX5.2, by decide +kernel⟩
theorem yk_X5_divides : Yk yX5_divides 2 := ⟨nh_RX5.1, nh_RX5.2, by decide +kernel⟩
theorem yk_X5_divisor : Yk yX5_divisor 2 := ⟨nh_RX5.1, nh_RX5.2, by decide +kernel⟩
theorem yk_X5_drop : Yk yX5_drop 3 := ⟨nh_RX5.1, nh_RX5.2, by decide +kernel⟩
theorem yk_X5_exchange : Yk yX5_exchange 4 := ⟨nh_RX5.1, nh_RX5.2, by decide +kernel⟩
theorem yk_X5_findForm : Yk yX5_findForm 2 := ⟨nh_RX5.1, nh_RX5.2, by decide +kernel⟩
theorem yk_X5_flip : Yk yX5_flip 1 := ⟨nh_RX5.1, nh_RX5.2, by decide +kernel⟩
theorem yk_X5_greatestCommonDivisor : Yk yX5_greatestCommonDivisor 2 := ⟨nh_RX5.1, nh_RX5.2, by decide +kernel⟩
theorem yk_X5_house : Yk yX5_house 1 := ⟨nh_RX5.1, nh_RX5.2, by decide +kernel⟩
theorem yk_X5_init : Yk yX5_init 0 := ⟨nh_RX5.1, nh_RX5.2, by decide +kernel⟩
theorem yk_X5_isCount : Yk yX5_isCount 1 := ⟨nh_RX5.1, nh_RX5.2, by decide +kernel⟩
theorem yk_X5_isFirstSound : Yk yX5_isFirstSound 0 := ⟨nh_RX5.1, nh_RX5.2, by decide +kernel⟩
theorem yk_X5_isForm : Yk yX5_isForm 1 := ⟨nh_RX5.1, nh_RX5.2, by decide +kernel⟩
theorem yk_X5_isSame : Yk yX5_isSame 2 := ⟨nh_RX5.1, nh_RX5.2, by decide +kernel⟩
theorem yk_X5_isSolvable : Yk yX5_isSolvable 4 := ⟨nh_RX5.1, nh_RX5.2, by decide +kernel⟩
theorem yk_X5_isSound : Yk yX5_isSound 0 := ⟨nh_RX5.1, nh_RX5.2, by decide +kernel⟩
theorem yk_X5_isSoundByRowSteps : Yk yX5_isSoundByRowSteps 1 := ⟨nh_RX5.1, nh_RX5.2, by decide +kernel⟩
theorem yk_X5_isSoundBySteps : Yk yX5_isSoundBySteps 1 := ⟨nh_RX5.1, nh_RX5.2, by decide +kernel⟩
theorem yk_X5_knock : Yk yX5_knock 0 := ⟨nh_RX5.1, nh_RX5.2, by decide +kernel⟩
theorem yk_X5_leavesRests : Yk yX5_leavesRests 1 := ⟨nh_RX5.1, nh_RX5.2, by decide +kernel⟩
theorem yk_X5_make : Yk yX5_make 3 := ⟨nh_RX5.1, nh_RX5.2, by decide +kernel⟩
theorem yk_X5_minor : Yk yX5_minor 3 := ⟨nh_RX5.1, nh_RX5.2, by decide +kernel⟩
theorem yk_X5_multiply : Yk yX5_multiply 3 := ⟨nh_RX5.1, nh_RX5.2, by decide +kernel⟩
theorem yk_X5_needArgument : Yk yX5_needArgument 1 := ⟨nh_RX5.1, nh_RX5.2, by decide +kernel⟩
theorem yk_X5_needIndex : Yk yX5_needIndex 1 := ⟨nh_RX5.1, nh_RX5.2, by decide +kernel⟩
theorem yk_X5_needState : Yk yX5_needState 1 := ⟨nh_RX5.1, nh_RX5.2, by decide +kernel⟩
theorem yk_X5_needTable : Yk yX5_needTable 1 := ⟨nh_RX5.1, nh_RX5.2, by decide +kernel⟩
theorem yk_X5_put : Yk yX5_put 4 := ⟨nh_RX5.1, nh_RX5.2, by decide +kernel⟩
theorem yk_X5_rank : Yk yX5_rank 2 := ⟨nh_RX5.1, nh_RX5.2, by decide +kernel⟩
theorem yk_X5_remainder : Yk yX5_remainder 2 := ⟨nh_RX5.1, nh_RX5.2, by decide +kernel⟩
theorem yk_X5_rest : Yk yX5_rest 2 := ⟨nh_RX5.1, nh_RX5.2, by decide +kernel⟩
theorem yk_X5_restColumn : Yk yX5_restColumn 3 := ⟨nh_RX5.1, nh_RX5.2, by decide +kernel⟩
theorem yk_X5_restOf : Yk yX5_restOf 3 := ⟨nh_RX5.1, nh_RX5.2, by decide +kernel⟩
theorem yk_X5_rowNumber : Yk yX5_rowNumber 1 := ⟨nh_RX5.1, nh_RX5.2, by decide +kernel⟩
theorem yk_X5_setRowNumber : Yk yX5_setRowNumber 2 := ⟨nh_RX5.1, nh_RX5.2, by decide +kernel⟩
theorem yk_X5_settleChange : Yk yX5_settleChange 1 := ⟨nh_RX5.1, nh_RX5.2, by decide +kernel⟩
theorem yk_X5_settleForm : Yk yX5_settleForm 2 := ⟨nh_RX5.1, nh_RX5.2, by decide +kernel⟩
theorem yk_X5_shape : Yk yX5_shape 2 := ⟨nh_RX5.1, nh_RX5.2, by decide +kernel⟩
theorem yk_X5_solve : Yk yX5_solve 4 := ⟨nh_RX5.1, nh_RX5.2, by decide +kernel⟩
theorem yk_X5_sow : Yk yX5_sow 3 := ⟨nh_RX5.1, nh_RX5.2, by decide +kernel⟩
theorem yk_X5_sum : Yk yX5_sum 4 := ⟨nh_RX5.1, nh_RX5.2, by decide +kernel⟩
theorem yk_X5_swap : Yk yX5_swap 2 := ⟨nh_RX5.1, nh_RX5.2, by decide +kernel⟩
theorem yk_X5_take : Yk yX5_take 3 := ⟨nh_RX5.1, nh_RX5.2, by decide +kernel⟩
theorem yk_X5_tellDone : Yk yX5_tellDone 1 := ⟨nh_RX5.1, nh_RX5.2, by decide +kernel⟩
theorem yk_X5_tellRefused : Yk yX5_tellRefused 0 := ⟨nh_RX5.1, nh_RX5.2, by decide +kernel⟩
theorem yk_X5_text : Yk yX5_text 1 := ⟨nh_RX5.1, nh_RX5.2, by decide +kernel⟩
theorem yk_X5_told : Yk yX5_told 4 := ⟨nh_RX5.1, nh_RX5.2, by decide +kernel⟩
theorem yk_X5_turn : Yk yX5_turn 3 := ⟨nh_RX5.1, nh_RX5.2, by decide +kernel⟩
theorem yk_X5_unit : Yk yX5_unit 2 := ⟨nh_RX5.1, nh_RX5.2, by decide +kernel⟩
theorem yk_X5_widen : Yk yX5_widen 2 := ⟨nh_RX5.1, nh_RX5.2, by decide +kernel⟩
theorem yk_X6_init : Yk yX6_init 0 := ⟨nh_RX6.1, nh_RX6.2, by decide +kernel⟩
theorem yk_X7_addColumn : Yk yX7_addColumn 3 := ⟨nh_RX7.1, nh_RX7.2, by decide +kernel⟩
theorem yk_X7_addRow : Yk yX7_addRow 3 := ⟨nh_RX7.1, nh_RX7.2, by decide +kernel⟩
theorem yk_X7_at : Yk yX7_at 2 := ⟨nh_RX7.1, nh_RX7.2, by decide +kernel⟩
theorem yk_X7_copy : Yk yX7_copy 0 := ⟨nh_RX7.1, nh_RX7.2, by decide +kernel⟩
theorem yk_X7_divisor : Yk yX7_divisor 1 := ⟨nh_RX7.1, nh_RX7.2, by decide +kernel⟩
theorem yk_X7_exchangeColumns : Yk yX7_exchangeColumns 2 := ⟨nh_RX7.1, nh_RX7.2, by decide +kernel⟩
theorem yk_X7_exchangeRows : Yk yX7_exchangeRows 2 := ⟨nh_RX7.1, nh_RX7.2, by decide +kernel⟩
theorem yk_X7_init : Yk yX7_init 2 := ⟨nh_RX7.1, nh_RX7.2, by decide +kernel⟩
theorem yk_X7_isGreat : Yk yX7_isGreat 0 := ⟨nh_RX7.1, nh_RX7.2, by decide +kernel⟩
theorem yk_X7_isLet : Yk yX7_isLet 0 := ⟨nh_RX7.1, nh_RX7.2, by decide +kernel⟩
theorem yk_X7_isSame : Yk yX7_isSame 1 := ⟨nh_RX7.1, nh_RX7.2, by decide +kernel⟩
theorem yk_X7_minor : Yk yX7_minor 2 := ⟨nh_RX7.1, nh_RX7.2, by decide +kernel⟩
theorem yk_X7_others : Yk yX7_others 0 := ⟨nh_RX7.1, nh_RX7.2, by decide +kernel⟩
theorem yk_X7_product : Yk yX7_product 1 := ⟨nh_RX7.1, nh_RX7.2, by decide +kernel⟩
theorem yk_X7_put : Yk yX7_put 3 := ⟨nh_RX7.1, nh_RX7.2, by decide +kernel⟩
theorem yk_X7_rank : Yk yX7_rank 0 := ⟨nh_RX7.1, nh_RX7.2, by decide +kernel⟩
theorem yk_X7_turnRow : Yk yX7_turnRow 1 := ⟨nh_RX7.1, nh_RX7.2, by decide +kernel⟩
theorem yk_X7_unit : Yk yX7_unit 1 := ⟨nh_RX7.1, nh_RX7.2, by decide +kernel⟩
theorem yk_X7_unlike : Yk yX7_unlike 1 := ⟨nh_RX7.1, nh_RX7.2, by decide +kernel⟩
theorem yk_X8_init : Yk yX8_init 1 := ⟨nh_RX8.1, nh_RX8.2, by decide +kernel⟩
theorem yk_X8_isCleared : Yk yX8_isCleared 2 := ⟨nh_RX8.1, nh_RX8.2, by decide +kernel⟩
theorem yk_X8_least : Yk yX8_least 2 := ⟨nh_RX8.1, nh_RX8.2, by decide +kernel⟩
theorem yk_X8_rank : Yk yX8_rank 0 := ⟨nh_RX8.1, nh_RX8.2, by decide +kernel⟩
theorem yk_X8_takeOff : Yk yX8_takeOff 3 := ⟨nh_RX8.1, nh_RX8.2, by decide +kernel⟩
theorem yk_X9_bring : Yk yX9_bring 3 := ⟨nh_RX9.1, nh_RX9.2, by decide +kernel⟩
theorem yk_X9_init : Yk yX9_init 1 := ⟨nh_RX9.1, nh_RX9.2, by decide +kernel⟩
theorem yk_X9_isAlone : Yk yX9_isAlone 1 := ⟨nh_RX9.1, nh_RX9.2, by decide +kernel⟩
theorem yk_X9_isCleared : Yk yX9_isCleared 1 := ⟨nh_RX9.1, nh_RX9.2, by decide +kernel⟩
theorem yk_X9_isDividing : Yk yX9_isDividing 1 := ⟨nh_RX9.1, nh_RX9.2, by decide +kernel⟩
theorem yk_X9_isLess : Yk yX9_isLess 2 := ⟨nh_RX9.1, nh_RX9.2, by decide +kernel⟩
theorem yk_X9_look : Yk yX9_look 0 := ⟨nh_RX9.1, nh_RX9.2, by decide +kernel⟩
theorem yk_X9_takeOff : Yk yX9_takeOff 1 := ⟨nh_RX9.1, nh_RX9.2, by decide +kernel⟩
end YK
end
