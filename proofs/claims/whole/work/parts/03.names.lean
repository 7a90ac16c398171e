/-! NAMES: methods (y_ a name, c_ its bytes), the words of the tables by their rows, fields in the order of the slots. By program (wip/whole/gen/names.py). -/
abbrev c_R_init : ByteArray := prog_1_method_1_code
def y_R_init : MethodName := ⟨"LevelRows", "<init>", "(I)V"⟩
abbrev c_P_init : ByteArray := prog_3_method_1_code
def y_P_init : MethodName := ⟨"LevelRows$Part", "<init>", "()V"⟩
abbrev c_H_min : ByteArray := prog_11_method_69_code
def y_H_min : MethodName := ⟨"java/lang/Math", "min", "(II)I"⟩
abbrev c_H_max : ByteArray := prog_11_method_65_code
def y_H_max : MethodName := ⟨"java/lang/Math", "max", "(II)I"⟩
abbrev c_I_numberOfLeadingZeros : ByteArray := prog_9_method_47_code
def y_I_numberOfLeadingZeros : MethodName := ⟨"java/lang/Integer", "numberOfLeadingZeros", "(I)I"⟩
abbrev c_L_init : ByteArray := prog_2_method_1_code
def y_L_init : MethodName := ⟨"LevelRows$Level", "<init>", "()V"⟩
abbrev c_R_build : ByteArray := prog_1_method_3_code
def y_R_build : MethodName := ⟨"LevelRows", "build", "()I"⟩
abbrev c_R_symbolAt : ByteArray := prog_1_method_22_code
def y_R_symbolAt : MethodName := ⟨"LevelRows", "symbolAt", "(I)I"⟩
abbrev c_L_bitAt : ByteArray := prog_2_method_3_code
def y_L_bitAt : MethodName := ⟨"LevelRows$Level", "bitAt", "(I)I"⟩
abbrev c_L_placeBelow : ByteArray := prog_2_method_6_code
def y_L_placeBelow : MethodName := ⟨"LevelRows$Level", "placeBelow", "(II)I"⟩
abbrev c_L_zerosTo : ByteArray := prog_2_method_4_code
def y_L_zerosTo : MethodName := ⟨"LevelRows$Level", "zerosTo", "(I)I"⟩
abbrev c_L_onesTo : ByteArray := prog_2_method_5_code
def y_L_onesTo : MethodName := ⟨"LevelRows$Level", "onesTo", "(I)I"⟩
abbrev c_J_bitCount : ByteArray := prog_10_method_50_code
def y_J_bitCount : MethodName := ⟨"java/lang/Long", "bitCount", "(J)I"⟩
abbrev c_R_storeLevels : ByteArray := prog_1_method_21_code
def y_R_storeLevels : MethodName := ⟨"LevelRows", "storeLevels", "()V"⟩
abbrev c_R_shiftOf : ByteArray := prog_1_method_20_code
def y_R_shiftOf : MethodName := ⟨"LevelRows", "shiftOf", "(I)I"⟩
abbrev c_L_store : ByteArray := prog_2_method_2_code
def y_L_store : MethodName := ⟨"LevelRows$Level", "store", "([III[I)V"⟩
abbrev c_A_fillJ : ByteArray := prog_17_method_101_code
def y_A_fillJ : MethodName := ⟨"java/util/Arrays", "fill", "([JJ)V"⟩
abbrev c_R_bits : ByteArray := prog_1_method_13_code
def y_R_bits : MethodName := ⟨"LevelRows", "bits", "()I"⟩
abbrev c_R_clear : ByteArray := prog_1_method_15_code
def y_R_clear : MethodName := ⟨"LevelRows", "clear", "()V"⟩
abbrev c_W_cell : ByteArray := method_2_code
def y_W_cell : MethodName := ⟨"LevelRowsLaw", "cell", "([II)I"⟩
abbrev c_W_put : ByteArray := method_3_code
def y_W_put : MethodName := ⟨"LevelRowsLaw", "put", "(LLevelRows;IIIIII[J)I"⟩
abbrev c_R_put : ByteArray := prog_1_method_2_code
def y_R_put : MethodName := ⟨"LevelRows", "put", "(IIIIII)I"⟩
abbrev c_R_symbolInPut : ByteArray := prog_1_method_19_code
def y_R_symbolInPut : MethodName := ⟨"LevelRows", "symbolInPut", "(IIIIII)I"⟩
abbrev c_R_checkSymbol : ByteArray := prog_1_method_16_code
def y_R_checkSymbol : MethodName := ⟨"LevelRows", "checkSymbol", "(I)V"⟩
abbrev c_W_at : ByteArray := method_4_code
def y_W_at : MethodName := ⟨"LevelRowsLaw", "at", "(LLevelRows;I[J)I"⟩
abbrev c_R_at : ByteArray := prog_1_method_4_code
def y_R_at : MethodName := ⟨"LevelRows", "at", "(I)I"⟩
abbrev c_W_rank : ByteArray := method_5_code
def y_W_rank : MethodName := ⟨"LevelRowsLaw", "rank", "(LLevelRows;II[J)I"⟩
abbrev c_R_rank : ByteArray := prog_1_method_5_code
def y_R_rank : MethodName := ⟨"LevelRows", "rank", "(II)I"⟩
abbrev c_R_checkPart : ByteArray := prog_1_method_17_code
def y_R_checkPart : MethodName := ⟨"LevelRows", "checkPart", "(II)V"⟩
abbrev c_P_span : ByteArray := prog_3_method_2_code
def y_P_span : MethodName := ⟨"LevelRows$Part", "span", "(II)V"⟩
abbrev c_R_descendTo : ByteArray := prog_1_method_23_code
def y_R_descendTo : MethodName := ⟨"LevelRows", "descendTo", "(I)V"⟩
abbrev c_P_split : ByteArray := prog_3_method_4_code
def y_P_split : MethodName := ⟨"LevelRows$Part", "split", "(LLevelRows$Level;)V"⟩
abbrev c_P_enter : ByteArray := prog_3_method_6_code
def y_P_enter : MethodName := ⟨"LevelRows$Part", "enter", "(I)V"⟩
abbrev c_P_length : ByteArray := prog_3_method_3_code
def y_P_length : MethodName := ⟨"LevelRows$Part", "length", "()I"⟩
abbrev c_W_select : ByteArray := method_6_code
def y_W_select : MethodName := ⟨"LevelRowsLaw", "select", "(LLevelRows;II[J)I"⟩
abbrev c_R_select : ByteArray := prog_1_method_6_code
def y_R_select : MethodName := ⟨"LevelRows", "select", "(II)I"⟩
abbrev c_R_checkNotNegative : ByteArray := prog_1_method_18_code
def y_R_checkNotNegative : MethodName := ⟨"LevelRows", "checkNotNegative", "(I)V"⟩
abbrev c_R_climbFrom : ByteArray := prog_1_method_24_code
def y_R_climbFrom : MethodName := ⟨"LevelRows", "climbFrom", "(I)I"⟩
abbrev c_L_placeAbove : ByteArray := prog_2_method_7_code
def y_L_placeAbove : MethodName := ⟨"LevelRows$Level", "placeAbove", "(II)I"⟩
abbrev c_I_highestOneBit : ByteArray := prog_9_method_45_code
def y_I_highestOneBit : MethodName := ⟨"java/lang/Integer", "highestOneBit", "(I)I"⟩
abbrev c_W_quantile : ByteArray := method_7_code
def y_W_quantile : MethodName := ⟨"LevelRowsLaw", "quantile", "(LLevelRows;III[J)I"⟩
abbrev c_R_quantile : ByteArray := prog_1_method_7_code
def y_R_quantile : MethodName := ⟨"LevelRows", "quantile", "(III)I"⟩
abbrev c_R_kthLeast : ByteArray := prog_1_method_25_code
def y_R_kthLeast : MethodName := ⟨"LevelRows", "kthLeast", "(III)I"⟩
abbrev c_P_zeros : ByteArray := prog_3_method_5_code
def y_P_zeros : MethodName := ⟨"LevelRows$Part", "zeros", "()I"⟩
abbrev c_W_between : ByteArray := method_8_code
def y_W_between : MethodName := ⟨"LevelRowsLaw", "between", "(LLevelRows;IIII[J)I"⟩
abbrev c_R_between : ByteArray := prog_1_method_8_code
def y_R_between : MethodName := ⟨"LevelRows", "between", "(IIII)I"⟩
abbrev c_R_howManyBelow : ByteArray := prog_1_method_26_code
def y_R_howManyBelow : MethodName := ⟨"LevelRows", "howManyBelow", "(III)I"⟩
abbrev c_W_below : ByteArray := method_9_code
def y_W_below : MethodName := ⟨"LevelRowsLaw", "below", "(LLevelRows;III[J)I"⟩
abbrev c_R_below : ByteArray := prog_1_method_9_code
def y_R_below : MethodName := ⟨"LevelRows", "below", "(III)I"⟩
abbrev c_W_above : ByteArray := method_10_code
def y_W_above : MethodName := ⟨"LevelRowsLaw", "above", "(LLevelRows;III[J)I"⟩
abbrev c_R_above : ByteArray := prog_1_method_10_code
def y_R_above : MethodName := ⟨"LevelRows", "above", "(III)I"⟩
abbrev c_W_different : ByteArray := method_11_code
def y_W_different : MethodName := ⟨"LevelRowsLaw", "different", "(LLevelRows;II[J)I"⟩
abbrev c_R_different : ByteArray := prog_1_method_11_code
def y_R_different : MethodName := ⟨"LevelRows", "different", "(II)I"⟩
abbrev c_R_listSymbols : ByteArray := prog_1_method_27_code
def y_R_listSymbols : MethodName := ⟨"LevelRows", "listSymbols", "(II)I"⟩
abbrev c_W_frequent : ByteArray := method_12_code
def y_W_frequent : MethodName := ⟨"LevelRowsLaw", "frequent", "(LLevelRows;III[J)I"⟩
abbrev c_R_frequent : ByteArray := prog_1_method_12_code
def y_R_frequent : MethodName := ⟨"LevelRows", "frequent", "(III)I"⟩
abbrev c_R_countAhead : ByteArray := prog_1_method_28_code
def y_R_countAhead : MethodName := ⟨"LevelRows", "countAhead", "(I)V"⟩
abbrev c_A_fillI : ByteArray := prog_17_method_103_code
def y_A_fillI : MethodName := ⟨"java/util/Arrays", "fill", "([II)V"⟩
abbrev c_W_count : ByteArray := method_13_code
def y_W_count : MethodName := ⟨"LevelRowsLaw", "count", "(LLevelRows;I[J)I"⟩
abbrev c_R_count : ByteArray := prog_1_method_14_code
def y_R_count : MethodName := ⟨"LevelRows", "count", "(I)I"⟩
abbrev c_M_init : ByteArray := prog_5_method_1_code
def y_M_init : MethodName := ⟨"LevelRowsModel", "<init>", "(I)V"⟩
abbrev c_M_thrown : ByteArray := prog_5_method_2_code
def y_M_thrown : MethodName := ⟨"LevelRowsModel", "thrown", "()I"⟩
abbrev c_M_put : ByteArray := prog_5_method_4_code
def y_M_put : MethodName := ⟨"LevelRowsModel", "put", "(IIIIII)I"⟩
abbrev c_M_given : ByteArray := prog_5_method_3_code
def y_M_given : MethodName := ⟨"LevelRowsModel", "given", "(IIIIII)I"⟩
abbrev c_M_build : ByteArray := prog_5_method_5_code
def y_M_build : MethodName := ⟨"LevelRowsModel", "build", "()I"⟩
abbrev c_M_clear : ByteArray := prog_5_method_6_code
def y_M_clear : MethodName := ⟨"LevelRowsModel", "clear", "()V"⟩
abbrev c_M_at : ByteArray := prog_5_method_7_code
def y_M_at : MethodName := ⟨"LevelRowsModel", "at", "(I)I"⟩
abbrev c_M_rank : ByteArray := prog_5_method_10_code
def y_M_rank : MethodName := ⟨"LevelRowsModel", "rank", "(II)I"⟩
abbrev c_M_isSymbol : ByteArray := prog_5_method_8_code
def y_M_isSymbol : MethodName := ⟨"LevelRowsModel", "isSymbol", "(I)Z"⟩
abbrev c_M_select : ByteArray := prog_5_method_11_code
def y_M_select : MethodName := ⟨"LevelRowsModel", "select", "(II)I"⟩
abbrev c_M_quantile : ByteArray := prog_5_method_13_code
def y_M_quantile : MethodName := ⟨"LevelRowsModel", "quantile", "(III)I"⟩
abbrev c_M_isPart : ByteArray := prog_5_method_9_code
def y_M_isPart : MethodName := ⟨"LevelRowsModel", "isPart", "(II)Z"⟩
abbrev c_M_gather : ByteArray := prog_5_method_12_code
def y_M_gather : MethodName := ⟨"LevelRowsModel", "gather", "(II)I"⟩
abbrev c_M_between : ByteArray := prog_5_method_14_code
def y_M_between : MethodName := ⟨"LevelRowsModel", "between", "(IIII)I"⟩
abbrev c_M_below : ByteArray := prog_5_method_15_code
def y_M_below : MethodName := ⟨"LevelRowsModel", "below", "(III)I"⟩
abbrev c_M_above : ByteArray := prog_5_method_16_code
def y_M_above : MethodName := ⟨"LevelRowsModel", "above", "(III)I"⟩
abbrev c_M_different : ByteArray := prog_5_method_17_code
def y_M_different : MethodName := ⟨"LevelRowsModel", "different", "(II)I"⟩
abbrev c_M_frequent : ByteArray := prog_5_method_18_code
def y_M_frequent : MethodName := ⟨"LevelRowsModel", "frequent", "(III)I"⟩
abbrev c_M_bits : ByteArray := prog_5_method_20_code
def y_M_bits : MethodName := ⟨"LevelRowsModel", "bits", "()I"⟩
abbrev c_M_levels : ByteArray := prog_5_method_19_code
def y_M_levels : MethodName := ⟨"LevelRowsModel", "levels", "()I"⟩
abbrev c_M_count : ByteArray := prog_5_method_21_code
def y_M_count : MethodName := ⟨"LevelRowsModel", "count", "(I)I"⟩
abbrev c_W_law : ByteArray := code
def y_W_law : MethodName := ⟨"LevelRowsLaw", "law", "([I)Z"⟩
def n_L : String := "LevelRows$Level"
def f_L : u_T := fun k => match k with
  | 0 => ("LevelRows$Level", "words", "[J", true)
  | 1 => ("LevelRows$Level", "onesBefore", "[S", true)
  | _ => ("LevelRows$Level", "zeros", "I", false)
def t_L : Nat → FieldType := fun k => match k with
  | 0 => .array .long
  | 1 => .array .short
  | _ => .int
theorem nm_L : ∀ a, a < 3 → ∀ b, b < 3 → a ≠ b → (f_L a).2.1 ≠ (f_L b).2.1 := by decide +kernel
theorem ty_L : ∀ k, k < 3 → parseFieldDescriptor (f_L k).2.2.1 = some (t_L k) := by decide +kernel
def n_P : String := "LevelRows$Part"
def f_P : u_T := fun k => match k with
  | 0 => ("LevelRows$Part", "from", "I", false)
  | 1 => ("LevelRows$Part", "to", "I", false)
  | 2 => ("LevelRows$Part", "zerosFrom", "I", false)
  | 3 => ("LevelRows$Part", "zerosTo", "I", false)
  | 4 => ("LevelRows$Part", "onesFrom", "I", false)
  | _ => ("LevelRows$Part", "onesTo", "I", false)
def t_P : Nat → FieldType := fun k => match k with
  | 0 => .int
  | 1 => .int
  | 2 => .int
  | 3 => .int
  | 4 => .int
  | _ => .int
theorem nm_P : ∀ a, a < 6 → ∀ b, b < 6 → a ≠ b → (f_P a).2.1 ≠ (f_P b).2.1 := by decide +kernel
theorem ty_P : ∀ k, k < 6 → parseFieldDescriptor (f_P k).2.2.1 = some (t_P k) := by decide +kernel
def n_R : String := "LevelRows"
def f_R : u_T := fun k => match k with
  | 0 => ("LevelRows", "sigma", "I", true)
  | 1 => ("LevelRows", "levels", "[LLevelRows$Level;", true)
  | 2 => ("LevelRows", "built", "I", false)
  | 3 => ("LevelRows", "waiting", "I", false)
  | 4 => ("LevelRows", "row", "[I", true)
  | 5 => ("LevelRows", "spare", "[I", true)
  | 6 => ("LevelRows", "part", "LLevelRows$Part;", true)
  | 7 => ("LevelRows", "listed", "[I", true)
  | 8 => ("LevelRows", "listedTimes", "[I", true)
  | _ => ("LevelRows", "ahead", "[I", true)
def t_R : Nat → FieldType := fun k => match k with
  | 0 => .int
  | 1 => .array (.object "LevelRows$Level")
  | 2 => .int
  | 3 => .int
  | 4 => .array .int
  | 5 => .array .int
  | 6 => .object "LevelRows$Part"
  | 7 => .array .int
  | 8 => .array .int
  | _ => .array .int
theorem nm_R : ∀ a, a < 10 → ∀ b, b < 10 → a ≠ b → (f_R a).2.1 ≠ (f_R b).2.1 := by decide +kernel
theorem ty_R : ∀ k, k < 10 → parseFieldDescriptor (f_R k).2.2.1 = some (t_R k) := by decide +kernel
def n_M : String := "LevelRowsModel"
def f_M : u_T := fun k => match k with
  | 0 => ("LevelRowsModel", "thrown", "I", false)
  | 1 => ("LevelRowsModel", "sigma", "I", true)
  | 2 => ("LevelRowsModel", "row", "[I", true)
  | 3 => ("LevelRowsModel", "built", "I", false)
  | 4 => ("LevelRowsModel", "all", "I", false)
  | 5 => ("LevelRowsModel", "symbols", "[I", true)
  | _ => ("LevelRowsModel", "often", "[I", true)
def t_M : Nat → FieldType := fun k => match k with
  | 0 => .int
  | 1 => .int
  | 2 => .array .int
  | 3 => .int
  | 4 => .int
  | 5 => .array .int
  | _ => .array .int
theorem nm_M : ∀ a, a < 7 → ∀ b, b < 7 → a ≠ b → (f_M a).2.1 ≠ (f_M b).2.1 := by decide +kernel
theorem ty_M : ∀ k, k < 7 → parseFieldDescriptor (f_M k).2.2.1 = some (t_M k) := by decide +kernel
abbrev vwCl : List vw_C := [(n_L, f_L, 3), (n_P, f_P, 6), (n_R, f_R, 10), (n_M, f_M, 7)]
/-- the words that stay under warmer tables; those of the nest, of casts, of texts -/
def lw_ok : List Cond := lw_tbl.filter goodWord
def nword : Cond → Bool
  | .fieldLinkNest .. => true
  | .methodLinkNest .. => true
  | .declares .. => true
  | .castable .. => true
  | .stringRef .. => true
  | .arrayOver (.object _) => true
  | _ => false
def lw_nw : List Cond := lw_tbl.filter nword
theorem gd_ok {w : Cond} (h : w ∈ lw_ok) : goodWord w = true := (List.mem_filter.mp h).2
theorem gd_in {w : Cond} (h : w ∈ lw_tbl) (g : goodWord w = true) : w ∈ lw_ok := List.mem_filter.mpr ⟨h, g⟩
theorem nw_in {w : Cond} (h : w ∈ lw_tbl) (g : nword w = true) : w ∈ lw_nw := List.mem_filter.mpr ⟨h, g⟩
theorem x_0 : (Jvm.Cond.initialized "LevelRowsLaw") ∈ lw_ok := gd_in (List.mem_append_right _ <| List.mem_append_left _ <| List.mem_of_getElem? (i := 0) rfl) rfl
theorem x_1 : (Jvm.Cond.initialized "LevelRows") ∈ lw_ok := gd_in (List.mem_append_right _ <| List.mem_append_left _ <| List.mem_of_getElem? (i := 1) rfl) rfl
theorem x_2 : (Jvm.Cond.initialized "LevelRows$Part") ∈ lw_ok := gd_in (List.mem_append_right _ <| List.mem_append_left _ <| List.mem_of_getElem? (i := 2) rfl) rfl
theorem x_3 : (Jvm.Cond.initialized "java/lang/Math") ∈ lw_ok := gd_in (List.mem_append_right _ <| List.mem_append_left _ <| List.mem_of_getElem? (i := 3) rfl) rfl
theorem x_4 : (Jvm.Cond.initialized "java/lang/Integer") ∈ lw_ok := gd_in (List.mem_append_right _ <| List.mem_append_left _ <| List.mem_of_getElem? (i := 4) rfl) rfl
theorem x_5 : (Jvm.Cond.initialized "LevelRows$Level") ∈ lw_ok := gd_in (List.mem_append_right _ <| List.mem_append_left _ <| List.mem_of_getElem? (i := 5) rfl) rfl
theorem x_6 : (Jvm.Cond.initialized "LevelRowsModel") ∈ lw_ok := gd_in (List.mem_append_right _ <| List.mem_append_left _ <| List.mem_of_getElem? (i := 6) rfl) rfl
theorem x_7 : (Jvm.Cond.initialized "java/lang/Throwable") ∈ lw_ok := gd_in (List.mem_append_right _ <| List.mem_append_left _ <| List.mem_of_getElem? (i := 7) rfl) rfl
theorem x_8 : (Jvm.Cond.initialized "java/lang/Exception") ∈ lw_ok := gd_in (List.mem_append_right _ <| List.mem_append_left _ <| List.mem_of_getElem? (i := 8) rfl) rfl
theorem x_9 : (Jvm.Cond.initialized "java/lang/RuntimeException") ∈ lw_ok := gd_in (List.mem_append_right _ <| List.mem_append_left _ <| List.mem_of_getElem? (i := 9) rfl) rfl
theorem x_10 : (Jvm.Cond.initialized "java/lang/IndexOutOfBoundsException") ∈ lw_ok := gd_in (List.mem_append_right _ <| List.mem_append_left _ <| List.mem_of_getElem? (i := 10) rfl) rfl
theorem x_11 : (Jvm.Cond.initialized "java/lang/IllegalArgumentException") ∈ lw_ok := gd_in (List.mem_append_right _ <| List.mem_append_left _ <| List.mem_of_getElem? (i := 11) rfl) rfl
theorem x_12 : (Jvm.Cond.initialized "java/lang/UnsupportedOperationException") ∈ lw_ok := gd_in (List.mem_append_right _ <| List.mem_append_left _ <| List.mem_of_getElem? (i := 12) rfl) rfl
theorem x_13 : (Jvm.Cond.initialized "java/lang/Long") ∈ lw_ok := gd_in (List.mem_append_right _ <| List.mem_append_left _ <| List.mem_of_getElem? (i := 13) rfl) rfl
theorem x_14 : (Jvm.Cond.initialized "java/util/Arrays") ∈ lw_ok := gd_in (List.mem_append_right _ <| List.mem_append_left _ <| List.mem_of_getElem? (i := 14) rfl) rfl
theorem x_15 : (Jvm.Cond.initialized "java/lang/System") ∈ lw_ok := gd_in (List.mem_append_right _ <| List.mem_append_left _ <| List.mem_of_getElem? (i := 15) rfl) rfl
theorem x_16 : (Jvm.Cond.classLink "LevelRowsLaw" (8 : Nat) "LevelRows") ∈ lw_ok := gd_in (List.mem_append_right _ <| List.mem_append_left _ <| List.mem_of_getElem? (i := 16) rfl) rfl
theorem x_17 : (Jvm.Cond.instantiable "LevelRows" (10 : Nat)) ∈ lw_ok := gd_in (List.mem_append_right _ <| List.mem_append_left _ <| List.mem_of_getElem? (i := 17) rfl) rfl
theorem x_18 : (Jvm.Cond.methodLink "LevelRowsLaw" (59 : Nat) y_R_init) ∈ lw_ok := gd_in (List.mem_append_right _ <| List.mem_append_left _ <| List.mem_of_getElem? (i := 18) rfl) rfl
theorem x_19 : (Jvm.Cond.instanceMethod y_R_init) ∈ lw_ok := gd_in (List.mem_append_right _ <| List.mem_append_left _ <| List.mem_of_getElem? (i := 19) rfl) rfl
theorem x_20 : (Jvm.Cond.code y_R_init prog_1_method_1_code (4 : Nat) (Option.none : Option Jvm.ClassFile.FieldType)) ∈ lw_ok := gd_in (List.mem_append_right _ <| List.mem_append_left _ <| List.mem_of_getElem? (i := 20) rfl) rfl
theorem x_21 : (Jvm.Cond.methodLink "LevelRows" (3 : Nat) ({ cls := "java/lang/Object", name := "<init>", desc := "()V" } : Jvm.MethodName)) ∈ lw_ok := gd_in (List.mem_append_right _ <| List.mem_append_left _ <| List.mem_of_getElem? (i := 21) rfl) rfl
theorem x_22 : (Jvm.Cond.instanceMethod ({ cls := "java/lang/Object", name := "<init>", desc := "()V" } : Jvm.MethodName)) ∈ lw_ok := gd_in (List.mem_append_right _ <| List.mem_append_left _ <| List.mem_of_getElem? (i := 22) rfl) rfl
theorem x_23 : (Jvm.Cond.code ({ cls := "java/lang/Object", name := "<init>", desc := "()V" } : Jvm.MethodName) object_method_1_code (1 : Nat) (Option.none : Option Jvm.ClassFile.FieldType)) ∈ lw_ok := gd_in (List.mem_append_right _ <| List.mem_append_left _ <| List.mem_of_getElem? (i := 23) rfl) rfl
theorem x_24 : (Jvm.Cond.classLink "LevelRows" (16 : Nat) "LevelRows$Part") ∈ lw_ok := gd_in (List.mem_append_right _ <| List.mem_append_left _ <| List.mem_of_getElem? (i := 24) rfl) rfl
theorem x_25 : (Jvm.Cond.instantiable "LevelRows$Part" (6 : Nat)) ∈ lw_ok := gd_in (List.mem_append_right _ <| List.mem_append_left _ <| List.mem_of_getElem? (i := 25) rfl) rfl
theorem x_26 : (Jvm.Cond.methodLinkNest "LevelRows" (18 : Nat) y_P_init "LevelRows") ∈ lw_nw := nw_in (List.mem_append_right _ <| List.mem_append_left _ <| List.mem_of_getElem? (i := 26) rfl) rfl
theorem x_27 : (Jvm.Cond.instanceMethod y_P_init) ∈ lw_ok := gd_in (List.mem_append_right _ <| List.mem_append_left _ <| List.mem_of_getElem? (i := 27) rfl) rfl
theorem x_28 : (Jvm.Cond.code y_P_init prog_3_method_1_code (1 : Nat) (Option.none : Option Jvm.ClassFile.FieldType)) ∈ lw_ok := gd_in (List.mem_append_right _ <| List.mem_append_left _ <| List.mem_of_getElem? (i := 28) rfl) rfl
theorem x_29 : (Jvm.Cond.methodLink "LevelRows$Part" (1 : Nat) ({ cls := "java/lang/Object", name := "<init>", desc := "()V" } : Jvm.MethodName)) ∈ lw_ok := gd_in (List.mem_append_right _ <| List.mem_append_left _ <| List.mem_of_getElem? (i := 29) rfl) rfl
theorem x_30 : (Jvm.Cond.fieldLink "LevelRows$Part" (7 : Nat) "LevelRows$Part" "from" "I") ∈ lw_ok := gd_in (List.mem_append_right _ <| List.mem_append_left _ <| List.mem_of_getElem? (i := 30) rfl) rfl
theorem x_31 : (Jvm.Cond.fieldLinkNest "LevelRows" (113 : Nat) "LevelRows$Part" "from" "I" "LevelRows") ∈ lw_nw := nw_in (List.mem_append_right _ <| List.mem_append_left _ <| List.mem_of_getElem? (i := 31) rfl) rfl
theorem x_32 : (Jvm.Cond.fieldLink "LevelRows$Part" (13 : Nat) "LevelRows$Part" "to" "I") ∈ lw_ok := gd_in (List.mem_append_right _ <| List.mem_append_left _ <| List.mem_of_getElem? (i := 32) rfl) rfl
theorem x_33 : (Jvm.Cond.fieldLink "LevelRows$Part" (22 : Nat) "LevelRows$Part" "zerosFrom" "I") ∈ lw_ok := gd_in (List.mem_append_right _ <| List.mem_append_left _ <| List.mem_of_getElem? (i := 33) rfl) rfl
theorem x_34 : (Jvm.Cond.fieldLink "LevelRows$Part" (25 : Nat) "LevelRows$Part" "zerosTo" "I") ∈ lw_ok := gd_in (List.mem_append_right _ <| List.mem_append_left _ <| List.mem_of_getElem? (i := 34) rfl) rfl
theorem x_35 : (Jvm.Cond.fieldLink "LevelRows$Part" (30 : Nat) "LevelRows$Part" "onesFrom" "I") ∈ lw_ok := gd_in (List.mem_append_right _ <| List.mem_append_left _ <| List.mem_of_getElem? (i := 35) rfl) rfl
theorem x_36 : (Jvm.Cond.fieldLink "LevelRows$Part" (33 : Nat) "LevelRows$Part" "onesTo" "I") ∈ lw_ok := gd_in (List.mem_append_right _ <| List.mem_append_left _ <| List.mem_of_getElem? (i := 36) rfl) rfl
theorem x_49 : (Jvm.Cond.superclass "LevelRows$Part" "java/lang/Object") ∈ lw_ok := gd_in (List.mem_append_right _ <| List.mem_append_left _ <| List.mem_of_getElem? (i := 49) rfl) rfl
theorem x_50 : (Jvm.Cond.arrayClass Jvm.ClassFile.FieldType.int) ∈ lw_ok := gd_in (List.mem_append_right _ <| List.mem_append_left _ <| List.mem_of_getElem? (i := 50) rfl) rfl
theorem x_51 : (Jvm.Cond.constant "LevelRows" (32 : Nat) (65536 : Int32)) ∈ lw_ok := gd_in (List.mem_append_right _ <| List.mem_append_left _ <| List.mem_of_getElem? (i := 51) rfl) rfl
theorem x_52 : (Jvm.Cond.methodLink "LevelRows" (33 : Nat) y_H_min) ∈ lw_ok := gd_in (List.mem_append_right _ <| List.mem_append_left _ <| List.mem_of_getElem? (i := 52) rfl) rfl
theorem x_53 : (Jvm.Cond.static y_H_min) ∈ lw_ok := gd_in (List.mem_append_right _ <| List.mem_append_left _ <| List.mem_of_getElem? (i := 53) rfl) rfl
theorem x_54 : (Jvm.Cond.code y_H_min prog_11_method_69_code (2 : Nat) (Option.some Jvm.ClassFile.FieldType.int)) ∈ lw_ok := gd_in (List.mem_append_right _ <| List.mem_append_left _ <| List.mem_of_getElem? (i := 54) rfl) rfl
theorem x_55 : (Jvm.Cond.methodLink "LevelRows" (39 : Nat) y_H_max) ∈ lw_ok := gd_in (List.mem_append_right _ <| List.mem_append_left _ <| List.mem_of_getElem? (i := 55) rfl) rfl
theorem x_56 : (Jvm.Cond.static y_H_max) ∈ lw_ok := gd_in (List.mem_append_right _ <| List.mem_append_left _ <| List.mem_of_getElem? (i := 56) rfl) rfl
theorem x_57 : (Jvm.Cond.code y_H_max prog_11_method_65_code (2 : Nat) (Option.some Jvm.ClassFile.FieldType.int)) ∈ lw_ok := gd_in (List.mem_append_right _ <| List.mem_append_left _ <| List.mem_of_getElem? (i := 57) rfl) rfl
theorem x_58 : (Jvm.Cond.methodLink "LevelRows" (46 : Nat) y_I_numberOfLeadingZeros) ∈ lw_ok := gd_in (List.mem_append_right _ <| List.mem_append_left _ <| List.mem_of_getElem? (i := 58) rfl) rfl
theorem x_59 : (Jvm.Cond.static y_I_numberOfLeadingZeros) ∈ lw_ok := gd_in (List.mem_append_right _ <| List.mem_append_left _ <| List.mem_of_getElem? (i := 59) rfl) rfl
theorem x_60 : (Jvm.Cond.code y_I_numberOfLeadingZeros prog_9_method_47_code (2 : Nat) (Option.some Jvm.ClassFile.FieldType.int)) ∈ lw_ok := gd_in (List.mem_append_right _ <| List.mem_append_left _ <| List.mem_of_getElem? (i := 60) rfl) rfl
theorem x_61 : (Jvm.Cond.constant "java/lang/Integer" (264 : Nat) (65536 : Int32)) ∈ lw_ok := gd_in (List.mem_append_right _ <| List.mem_append_left _ <| List.mem_of_getElem? (i := 61) rfl) rfl
theorem x_62 : (Jvm.Cond.classLink "LevelRows" (52 : Nat) "LevelRows$Level") ∈ lw_ok := gd_in (List.mem_append_right _ <| List.mem_append_left _ <| List.mem_of_getElem? (i := 62) rfl) rfl
theorem x_63 : (Jvm.Cond.arrayOver (Jvm.ClassFile.FieldType.object "LevelRows$Level")) ∈ lw_nw := nw_in (List.mem_append_right _ <| List.mem_append_left _ <| List.mem_of_getElem? (i := 63) rfl) rfl
theorem x_64 : (Jvm.Cond.instantiable "LevelRows$Level" (3 : Nat)) ∈ lw_ok := gd_in (List.mem_append_right _ <| List.mem_append_left _ <| List.mem_of_getElem? (i := 64) rfl) rfl
theorem x_65 : (Jvm.Cond.methodLinkNest "LevelRows" (58 : Nat) y_L_init "LevelRows") ∈ lw_nw := nw_in (List.mem_append_right _ <| List.mem_append_left _ <| List.mem_of_getElem? (i := 65) rfl) rfl
theorem x_66 : (Jvm.Cond.instanceMethod y_L_init) ∈ lw_ok := gd_in (List.mem_append_right _ <| List.mem_append_left _ <| List.mem_of_getElem? (i := 66) rfl) rfl
theorem x_67 : (Jvm.Cond.code y_L_init prog_2_method_1_code (1 : Nat) (Option.none : Option Jvm.ClassFile.FieldType)) ∈ lw_ok := gd_in (List.mem_append_right _ <| List.mem_append_left _ <| List.mem_of_getElem? (i := 67) rfl) rfl
theorem x_68 : (Jvm.Cond.methodLink "LevelRows$Level" (3 : Nat) ({ cls := "java/lang/Object", name := "<init>", desc := "()V" } : Jvm.MethodName)) ∈ lw_ok := gd_in (List.mem_append_right _ <| List.mem_append_left _ <| List.mem_of_getElem? (i := 68) rfl) rfl
theorem x_69 : (Jvm.Cond.fieldLink "LevelRows$Level" (9 : Nat) "LevelRows$Level" "words" "[J") ∈ lw_ok := gd_in (List.mem_append_right _ <| List.mem_append_left _ <| List.mem_of_getElem? (i := 69) rfl) rfl
theorem x_70 : (Jvm.Cond.fieldLink "LevelRows$Level" (15 : Nat) "LevelRows$Level" "onesBefore" "[S") ∈ lw_ok := gd_in (List.mem_append_right _ <| List.mem_append_left _ <| List.mem_of_getElem? (i := 70) rfl) rfl
theorem x_71 : (Jvm.Cond.fieldLink "LevelRows$Level" (25 : Nat) "LevelRows$Level" "zeros" "I") ∈ lw_ok := gd_in (List.mem_append_right _ <| List.mem_append_left _ <| List.mem_of_getElem? (i := 71) rfl) rfl
theorem x_72 : (Jvm.Cond.fieldLinkNest "LevelRows$Part" (27 : Nat) "LevelRows$Level" "zeros" "I" "LevelRows") ∈ lw_nw := nw_in (List.mem_append_right _ <| List.mem_append_left _ <| List.mem_of_getElem? (i := 72) rfl) rfl
theorem x_79 : (Jvm.Cond.superclass "LevelRows$Level" "java/lang/Object") ∈ lw_ok := gd_in (List.mem_append_right _ <| List.mem_append_left _ <| List.mem_of_getElem? (i := 79) rfl) rfl
theorem x_80 : (Jvm.Cond.arrayClass Jvm.ClassFile.FieldType.long) ∈ lw_ok := gd_in (List.mem_append_right _ <| List.mem_append_left _ <| List.mem_of_getElem? (i := 80) rfl) rfl
theorem x_81 : (Jvm.Cond.arrayClass Jvm.ClassFile.FieldType.short) ∈ lw_ok := gd_in (List.mem_append_right _ <| List.mem_append_left _ <| List.mem_of_getElem? (i := 81) rfl) rfl
theorem x_82 : (Jvm.Cond.fieldLink "LevelRows" (42 : Nat) "LevelRows" "sigma" "I") ∈ lw_ok := gd_in (List.mem_append_right _ <| List.mem_append_left _ <| List.mem_of_getElem? (i := 82) rfl) rfl
theorem x_83 : (Jvm.Cond.fieldLink "LevelRows" (54 : Nat) "LevelRows" "levels" "[LLevelRows$Level;") ∈ lw_ok := gd_in (List.mem_append_right _ <| List.mem_append_left _ <| List.mem_of_getElem? (i := 83) rfl) rfl
theorem x_84 : (Jvm.Cond.fieldLink "LevelRows" (74 : Nat) "LevelRows" "built" "I") ∈ lw_ok := gd_in (List.mem_append_right _ <| List.mem_append_left _ <| List.mem_of_getElem? (i := 84) rfl) rfl
theorem x_85 : (Jvm.Cond.fieldLink "LevelRows" (77 : Nat) "LevelRows" "waiting" "I") ∈ lw_ok := gd_in (List.mem_append_right _ <| List.mem_append_left _ <| List.mem_of_getElem? (i := 85) rfl) rfl
theorem x_86 : (Jvm.Cond.fieldLink "LevelRows" (9 : Nat) "LevelRows" "row" "[I") ∈ lw_ok := gd_in (List.mem_append_right _ <| List.mem_append_left _ <| List.mem_of_getElem? (i := 86) rfl) rfl
theorem x_87 : (Jvm.Cond.fieldLink "LevelRows" (13 : Nat) "LevelRows" "spare" "[I") ∈ lw_ok := gd_in (List.mem_append_right _ <| List.mem_append_left _ <| List.mem_of_getElem? (i := 87) rfl) rfl
theorem x_88 : (Jvm.Cond.fieldLink "LevelRows" (19 : Nat) "LevelRows" "part" "LLevelRows$Part;") ∈ lw_ok := gd_in (List.mem_append_right _ <| List.mem_append_left _ <| List.mem_of_getElem? (i := 88) rfl) rfl
theorem x_89 : (Jvm.Cond.fieldLink "LevelRows" (23 : Nat) "LevelRows" "listed" "[I") ∈ lw_ok := gd_in (List.mem_append_right _ <| List.mem_append_left _ <| List.mem_of_getElem? (i := 89) rfl) rfl
theorem x_90 : (Jvm.Cond.fieldLink "LevelRows" (26 : Nat) "LevelRows" "listedTimes" "[I") ∈ lw_ok := gd_in (List.mem_append_right _ <| List.mem_append_left _ <| List.mem_of_getElem? (i := 90) rfl) rfl
theorem x_91 : (Jvm.Cond.fieldLink "LevelRows" (29 : Nat) "LevelRows" "ahead" "[I") ∈ lw_ok := gd_in (List.mem_append_right _ <| List.mem_append_left _ <| List.mem_of_getElem? (i := 91) rfl) rfl
theorem x_112 : (Jvm.Cond.superclass "LevelRows" "java/lang/Object") ∈ lw_ok := gd_in (List.mem_append_right _ <| List.mem_append_left _ <| List.mem_of_getElem? (i := 112) rfl) rfl
theorem x_113 : (Jvm.Cond.methodLink "LevelRowsLaw" (73 : Nat) y_R_build) ∈ lw_ok := gd_in (List.mem_append_right _ <| List.mem_append_left _ <| List.mem_of_getElem? (i := 113) rfl) rfl
theorem x_114 : (Jvm.Cond.instanceMethod y_R_build) ∈ lw_ok := gd_in (List.mem_append_right _ <| List.mem_append_left _ <| List.mem_of_getElem? (i := 114) rfl) rfl
theorem x_115 : (Jvm.Cond.selects "LevelRows" y_R_build y_R_build) ∈ lw_ok := gd_in (List.mem_append_right _ <| List.mem_append_left _ <| List.mem_of_getElem? (i := 115) rfl) rfl
theorem x_116 : (Jvm.Cond.code y_R_build prog_1_method_3_code (2 : Nat) (Option.some Jvm.ClassFile.FieldType.int)) ∈ lw_ok := gd_in (List.mem_append_right _ <| List.mem_append_left _ <| List.mem_of_getElem? (i := 116) rfl) rfl
theorem x_117 : (Jvm.Cond.methodLink "LevelRows" (85 : Nat) y_R_symbolAt) ∈ lw_ok := gd_in (List.mem_append_right _ <| List.mem_append_left _ <| List.mem_of_getElem? (i := 117) rfl) rfl
theorem x_119 : (Jvm.Cond.instanceMethod y_R_symbolAt) ∈ lw_ok := gd_in (List.mem_append_right _ <| List.mem_append_left _ <| List.mem_of_getElem? (i := 119) rfl) rfl
theorem x_120 : (Jvm.Cond.code y_R_symbolAt prog_1_method_22_code (6 : Nat) (Option.some Jvm.ClassFile.FieldType.int)) ∈ lw_ok := gd_in (List.mem_append_right _ <| List.mem_append_left _ <| List.mem_of_getElem? (i := 120) rfl) rfl
theorem x_121 : (Jvm.Cond.methodLink "LevelRows" (150 : Nat) y_L_bitAt) ∈ lw_ok := gd_in (List.mem_append_right _ <| List.mem_append_left _ <| List.mem_of_getElem? (i := 121) rfl) rfl
theorem x_122 : (Jvm.Cond.instanceMethod y_L_bitAt) ∈ lw_ok := gd_in (List.mem_append_right _ <| List.mem_append_left _ <| List.mem_of_getElem? (i := 122) rfl) rfl
theorem x_123 : (Jvm.Cond.selects "LevelRows$Level" y_L_bitAt y_L_bitAt) ∈ lw_ok := gd_in (List.mem_append_right _ <| List.mem_append_left _ <| List.mem_of_getElem? (i := 123) rfl) rfl
theorem x_124 : (Jvm.Cond.code y_L_bitAt prog_2_method_3_code (2 : Nat) (Option.some Jvm.ClassFile.FieldType.int)) ∈ lw_ok := gd_in (List.mem_append_right _ <| List.mem_append_left _ <| List.mem_of_getElem? (i := 124) rfl) rfl
theorem x_125 : (Jvm.Cond.methodLink "LevelRows" (153 : Nat) y_L_placeBelow) ∈ lw_ok := gd_in (List.mem_append_right _ <| List.mem_append_left _ <| List.mem_of_getElem? (i := 125) rfl) rfl
theorem x_126 : (Jvm.Cond.instanceMethod y_L_placeBelow) ∈ lw_ok := gd_in (List.mem_append_right _ <| List.mem_append_left _ <| List.mem_of_getElem? (i := 126) rfl) rfl
theorem x_127 : (Jvm.Cond.selects "LevelRows$Level" y_L_placeBelow y_L_placeBelow) ∈ lw_ok := gd_in (List.mem_append_right _ <| List.mem_append_left _ <| List.mem_of_getElem? (i := 127) rfl) rfl
theorem x_128 : (Jvm.Cond.code y_L_placeBelow prog_2_method_6_code (3 : Nat) (Option.some Jvm.ClassFile.FieldType.int)) ∈ lw_ok := gd_in (List.mem_append_right _ <| List.mem_append_left _ <| List.mem_of_getElem? (i := 128) rfl) rfl
theorem x_129 : (Jvm.Cond.methodLink "LevelRows$Level" (51 : Nat) y_L_zerosTo) ∈ lw_ok := gd_in (List.mem_append_right _ <| List.mem_append_left _ <| List.mem_of_getElem? (i := 129) rfl) rfl
theorem x_130 : (Jvm.Cond.instanceMethod y_L_zerosTo) ∈ lw_ok := gd_in (List.mem_append_right _ <| List.mem_append_left _ <| List.mem_of_getElem? (i := 130) rfl) rfl
theorem x_131 : (Jvm.Cond.selects "LevelRows$Level" y_L_zerosTo y_L_zerosTo) ∈ lw_ok := gd_in (List.mem_append_right _ <| List.mem_append_left _ <| List.mem_of_getElem? (i := 131) rfl) rfl
theorem x_132 : (Jvm.Cond.code y_L_zerosTo prog_2_method_4_code (2 : Nat) (Option.some Jvm.ClassFile.FieldType.int)) ∈ lw_ok := gd_in (List.mem_append_right _ <| List.mem_append_left _ <| List.mem_of_getElem? (i := 132) rfl) rfl
theorem x_133 : (Jvm.Cond.methodLink "LevelRows$Level" (35 : Nat) y_L_onesTo) ∈ lw_ok := gd_in (List.mem_append_right _ <| List.mem_append_left _ <| List.mem_of_getElem? (i := 133) rfl) rfl
theorem x_135 : (Jvm.Cond.instanceMethod y_L_onesTo) ∈ lw_ok := gd_in (List.mem_append_right _ <| List.mem_append_left _ <| List.mem_of_getElem? (i := 135) rfl) rfl
theorem x_136 : (Jvm.Cond.code y_L_onesTo prog_2_method_5_code (6 : Nat) (Option.some Jvm.ClassFile.FieldType.int)) ∈ lw_ok := gd_in (List.mem_append_right _ <| List.mem_append_left _ <| List.mem_of_getElem? (i := 136) rfl) rfl
theorem x_137 : (Jvm.Cond.methodLink "LevelRows$Level" (39 : Nat) y_H_min) ∈ lw_ok := gd_in (List.mem_append_right _ <| List.mem_append_left _ <| List.mem_of_getElem? (i := 137) rfl) rfl
theorem x_138 : (Jvm.Cond.methodLink "LevelRows$Level" (45 : Nat) y_J_bitCount) ∈ lw_ok := gd_in (List.mem_append_right _ <| List.mem_append_left _ <| List.mem_of_getElem? (i := 138) rfl) rfl
theorem x_139 : (Jvm.Cond.static y_J_bitCount) ∈ lw_ok := gd_in (List.mem_append_right _ <| List.mem_append_left _ <| List.mem_of_getElem? (i := 139) rfl) rfl
theorem x_140 : (Jvm.Cond.code y_J_bitCount prog_10_method_50_code (2 : Nat) (Option.some Jvm.ClassFile.FieldType.int)) ∈ lw_ok := gd_in (List.mem_append_right _ <| List.mem_append_left _ <| List.mem_of_getElem? (i := 140) rfl) rfl
theorem x_141 : (Jvm.Cond.constantLong "java/lang/Long" (314 : Nat) (6148914691236517205 : Int64)) ∈ lw_ok := gd_in (List.mem_append_right _ <| List.mem_append_left _ <| List.mem_of_getElem? (i := 141) rfl) rfl
theorem x_142 : (Jvm.Cond.constantLong "java/lang/Long" (316 : Nat) (3689348814741910323 : Int64)) ∈ lw_ok := gd_in (List.mem_append_right _ <| List.mem_append_left _ <| List.mem_of_getElem? (i := 142) rfl) rfl
theorem x_143 : (Jvm.Cond.constantLong "java/lang/Long" (318 : Nat) (1085102592571150095 : Int64)) ∈ lw_ok := gd_in (List.mem_append_right _ <| List.mem_append_left _ <| List.mem_of_getElem? (i := 143) rfl) rfl
theorem x_144 : (Jvm.Cond.methodLink "LevelRows" (88 : Nat) y_R_storeLevels) ∈ lw_ok := gd_in (List.mem_append_right _ <| List.mem_append_left _ <| List.mem_of_getElem? (i := 144) rfl) rfl
theorem x_146 : (Jvm.Cond.instanceMethod y_R_storeLevels) ∈ lw_ok := gd_in (List.mem_append_right _ <| List.mem_append_left _ <| List.mem_of_getElem? (i := 146) rfl) rfl
theorem x_147 : (Jvm.Cond.code y_R_storeLevels prog_1_method_21_code (2 : Nat) (Option.none : Option Jvm.ClassFile.FieldType)) ∈ lw_ok := gd_in (List.mem_append_right _ <| List.mem_append_left _ <| List.mem_of_getElem? (i := 147) rfl) rfl
theorem x_148 : (Jvm.Cond.methodLink "LevelRows" (143 : Nat) y_R_shiftOf) ∈ lw_ok := gd_in (List.mem_append_right _ <| List.mem_append_left _ <| List.mem_of_getElem? (i := 148) rfl) rfl
theorem x_150 : (Jvm.Cond.instanceMethod y_R_shiftOf) ∈ lw_ok := gd_in (List.mem_append_right _ <| List.mem_append_left _ <| List.mem_of_getElem? (i := 150) rfl) rfl
theorem x_151 : (Jvm.Cond.code y_R_shiftOf prog_1_method_20_code (2 : Nat) (Option.some Jvm.ClassFile.FieldType.int)) ∈ lw_ok := gd_in (List.mem_append_right _ <| List.mem_append_left _ <| List.mem_of_getElem? (i := 151) rfl) rfl
theorem x_152 : (Jvm.Cond.methodLink "LevelRows" (146 : Nat) y_L_store) ∈ lw_ok := gd_in (List.mem_append_right _ <| List.mem_append_left _ <| List.mem_of_getElem? (i := 152) rfl) rfl
theorem x_153 : (Jvm.Cond.instanceMethod y_L_store) ∈ lw_ok := gd_in (List.mem_append_right _ <| List.mem_append_left _ <| List.mem_of_getElem? (i := 153) rfl) rfl
theorem x_154 : (Jvm.Cond.selects "LevelRows$Level" y_L_store y_L_store) ∈ lw_ok := gd_in (List.mem_append_right _ <| List.mem_append_left _ <| List.mem_of_getElem? (i := 154) rfl) rfl
theorem x_155 : (Jvm.Cond.code y_L_store prog_2_method_2_code (9 : Nat) (Option.none : Option Jvm.ClassFile.FieldType)) ∈ lw_ok := gd_in (List.mem_append_right _ <| List.mem_append_left _ <| List.mem_of_getElem? (i := 155) rfl) rfl
theorem x_156 : (Jvm.Cond.methodLink "LevelRows$Level" (19 : Nat) y_A_fillJ) ∈ lw_ok := gd_in (List.mem_append_right _ <| List.mem_append_left _ <| List.mem_of_getElem? (i := 156) rfl) rfl
theorem x_157 : (Jvm.Cond.static y_A_fillJ) ∈ lw_ok := gd_in (List.mem_append_right _ <| List.mem_append_left _ <| List.mem_of_getElem? (i := 157) rfl) rfl
theorem x_158 : (Jvm.Cond.code y_A_fillJ prog_17_method_101_code (5 : Nat) (Option.none : Option Jvm.ClassFile.FieldType)) ∈ lw_ok := gd_in (List.mem_append_right _ <| List.mem_append_left _ <| List.mem_of_getElem? (i := 158) rfl) rfl
theorem x_159 : (Jvm.Cond.methodLink "LevelRows$Level" (29 : Nat) ({ cls := "java/lang/System", name := "arraycopy", desc := "(Ljava/lang/Object;ILjava/lang/Object;II)V" } : Jvm.MethodName)) ∈ lw_ok := gd_in (List.mem_append_right _ <| List.mem_append_left _ <| List.mem_of_getElem? (i := 159) rfl) rfl
theorem x_160 : (Jvm.Cond.static ({ cls := "java/lang/System", name := "arraycopy", desc := "(Ljava/lang/Object;ILjava/lang/Object;II)V" } : Jvm.MethodName)) ∈ lw_ok := gd_in (List.mem_append_right _ <| List.mem_append_left _ <| List.mem_of_getElem? (i := 160) rfl) rfl
theorem x_161 : (Jvm.Cond.native ({ cls := "java/lang/System", name := "arraycopy", desc := "(Ljava/lang/Object;ILjava/lang/Object;II)V" } : Jvm.MethodName)) ∈ lw_ok := gd_in (List.mem_append_right _ <| List.mem_append_left _ <| List.mem_of_getElem? (i := 161) rfl) rfl
theorem x_162 : (Jvm.Cond.methodLink "LevelRowsLaw" (108 : Nat) y_R_bits) ∈ lw_ok := gd_in (List.mem_append_right _ <| List.mem_append_left _ <| List.mem_of_getElem? (i := 162) rfl) rfl
theorem x_163 : (Jvm.Cond.instanceMethod y_R_bits) ∈ lw_ok := gd_in (List.mem_append_right _ <| List.mem_append_left _ <| List.mem_of_getElem? (i := 163) rfl) rfl
theorem x_164 : (Jvm.Cond.selects "LevelRows" y_R_bits y_R_bits) ∈ lw_ok := gd_in (List.mem_append_right _ <| List.mem_append_left _ <| List.mem_of_getElem? (i := 164) rfl) rfl
theorem x_165 : (Jvm.Cond.code y_R_bits prog_1_method_13_code (2 : Nat) (Option.some Jvm.ClassFile.FieldType.int)) ∈ lw_ok := gd_in (List.mem_append_right _ <| List.mem_append_left _ <| List.mem_of_getElem? (i := 165) rfl) rfl
theorem x_166 : (Jvm.Cond.methodLink "LevelRowsLaw" (115 : Nat) y_R_clear) ∈ lw_ok := gd_in (List.mem_append_right _ <| List.mem_append_left _ <| List.mem_of_getElem? (i := 166) rfl) rfl
theorem x_167 : (Jvm.Cond.instanceMethod y_R_clear) ∈ lw_ok := gd_in (List.mem_append_right _ <| List.mem_append_left _ <| List.mem_of_getElem? (i := 167) rfl) rfl
theorem x_168 : (Jvm.Cond.selects "LevelRows" y_R_clear y_R_clear) ∈ lw_ok := gd_in (List.mem_append_right _ <| List.mem_append_left _ <| List.mem_of_getElem? (i := 168) rfl) rfl
theorem x_169 : (Jvm.Cond.code y_R_clear prog_1_method_15_code (1 : Nat) (Option.none : Option Jvm.ClassFile.FieldType)) ∈ lw_ok := gd_in (List.mem_append_right _ <| List.mem_append_left _ <| List.mem_of_getElem? (i := 169) rfl) rfl
theorem x_170 : (Jvm.Cond.methodLink "LevelRowsLaw" (53 : Nat) y_W_cell) ∈ lw_ok := gd_in (List.mem_append_right _ <| List.mem_append_left _ <| List.mem_of_getElem? (i := 170) rfl) rfl
theorem x_171 : (Jvm.Cond.static y_W_cell) ∈ lw_ok := gd_in (List.mem_append_right _ <| List.mem_append_left _ <| List.mem_of_getElem? (i := 171) rfl) rfl
theorem x_172 : (Jvm.Cond.code y_W_cell method_2_code (2 : Nat) (Option.some Jvm.ClassFile.FieldType.int)) ∈ lw_ok := gd_in (List.mem_append_right _ <| List.mem_append_left _ <| List.mem_of_getElem? (i := 172) rfl) rfl
theorem x_173 : (Jvm.Cond.methodLink "LevelRowsLaw" (65 : Nat) y_W_put) ∈ lw_ok := gd_in (List.mem_append_right _ <| List.mem_append_left _ <| List.mem_of_getElem? (i := 173) rfl) rfl
theorem x_174 : (Jvm.Cond.static y_W_put) ∈ lw_ok := gd_in (List.mem_append_right _ <| List.mem_append_left _ <| List.mem_of_getElem? (i := 174) rfl) rfl
theorem x_175 : (Jvm.Cond.codeWith y_W_put method_3_code (9 : Nat) (Option.some Jvm.ClassFile.FieldType.int) [((0 : Nat), (18 : Nat), (21 : Nat), (13 : Nat)), ((0 : Nat), (18 : Nat), (25 : Nat), (15 : Nat)), ((0 : Nat), (18 : Nat), (29 : Nat), (17 : Nat))]) ∈ lw_ok := gd_in (List.mem_append_right _ <| List.mem_append_left _ <| List.mem_of_getElem? (i := 175) rfl) rfl
theorem x_176 : (Jvm.Cond.classLink "LevelRowsLaw" (13 : Nat) "java/lang/IndexOutOfBoundsException") ∈ lw_ok := gd_in (List.mem_append_right _ <| List.mem_append_left _ <| List.mem_of_getElem? (i := 176) rfl) rfl
theorem x_177 : (Jvm.Cond.classLink "LevelRowsLaw" (15 : Nat) "java/lang/IllegalArgumentException") ∈ lw_ok := gd_in (List.mem_append_right _ <| List.mem_append_left _ <| List.mem_of_getElem? (i := 177) rfl) rfl
theorem x_178 : (Jvm.Cond.classLink "LevelRowsLaw" (17 : Nat) "java/lang/UnsupportedOperationException") ∈ lw_ok := gd_in (List.mem_append_right _ <| List.mem_append_left _ <| List.mem_of_getElem? (i := 178) rfl) rfl
theorem x_179 : (Jvm.Cond.methodLink "LevelRowsLaw" (7 : Nat) y_R_put) ∈ lw_ok := gd_in (List.mem_append_right _ <| List.mem_append_left _ <| List.mem_of_getElem? (i := 179) rfl) rfl
theorem x_180 : (Jvm.Cond.instanceMethod y_R_put) ∈ lw_ok := gd_in (List.mem_append_right _ <| List.mem_append_left _ <| List.mem_of_getElem? (i := 180) rfl) rfl
theorem x_181 : (Jvm.Cond.selects "LevelRows" y_R_put y_R_put) ∈ lw_ok := gd_in (List.mem_append_right _ <| List.mem_append_left _ <| List.mem_of_getElem? (i := 181) rfl) rfl
theorem x_182 : (Jvm.Cond.code y_R_put prog_1_method_2_code (9 : Nat) (Option.some Jvm.ClassFile.FieldType.int)) ∈ lw_ok := gd_in (List.mem_append_right _ <| List.mem_append_left _ <| List.mem_of_getElem? (i := 182) rfl) rfl
theorem x_183 : (Jvm.Cond.methodLink "LevelRows" (59 : Nat) y_R_symbolInPut) ∈ lw_ok := gd_in (List.mem_append_right _ <| List.mem_append_left _ <| List.mem_of_getElem? (i := 183) rfl) rfl
theorem x_184 : (Jvm.Cond.static y_R_symbolInPut) ∈ lw_ok := gd_in (List.mem_append_right _ <| List.mem_append_left _ <| List.mem_of_getElem? (i := 184) rfl) rfl
theorem x_185 : (Jvm.Cond.code y_R_symbolInPut prog_1_method_19_code (7 : Nat) (Option.some Jvm.ClassFile.FieldType.int)) ∈ lw_ok := gd_in (List.mem_append_right _ <| List.mem_append_left _ <| List.mem_of_getElem? (i := 185) rfl) rfl
theorem x_186 : (Jvm.Cond.constant "LevelRows" (142 : Nat) (65535 : Int32)) ∈ lw_ok := gd_in (List.mem_append_right _ <| List.mem_append_left _ <| List.mem_of_getElem? (i := 186) rfl) rfl
theorem x_187 : (Jvm.Cond.methodLink "LevelRows" (63 : Nat) y_R_checkSymbol) ∈ lw_ok := gd_in (List.mem_append_right _ <| List.mem_append_left _ <| List.mem_of_getElem? (i := 187) rfl) rfl
theorem x_189 : (Jvm.Cond.instanceMethod y_R_checkSymbol) ∈ lw_ok := gd_in (List.mem_append_right _ <| List.mem_append_left _ <| List.mem_of_getElem? (i := 189) rfl) rfl
theorem x_190 : (Jvm.Cond.code y_R_checkSymbol prog_1_method_16_code (2 : Nat) (Option.none : Option Jvm.ClassFile.FieldType)) ∈ lw_ok := gd_in (List.mem_append_right _ <| List.mem_append_left _ <| List.mem_of_getElem? (i := 190) rfl) rfl
theorem x_191 : (Jvm.Cond.classLink "LevelRows" (91 : Nat) "java/lang/IndexOutOfBoundsException") ∈ lw_ok := gd_in (List.mem_append_right _ <| List.mem_append_left _ <| List.mem_of_getElem? (i := 191) rfl) rfl
theorem x_192 : (Jvm.Cond.instantiable "java/lang/IndexOutOfBoundsException" (6 : Nat)) ∈ lw_ok := gd_in (List.mem_append_right _ <| List.mem_append_left _ <| List.mem_of_getElem? (i := 192) rfl) rfl
theorem x_193 : (Jvm.Cond.castable "java/lang/IndexOutOfBoundsException" "java/lang/IndexOutOfBoundsException") ∈ lw_nw := nw_in (List.mem_append_right _ <| List.mem_append_left _ <| List.mem_of_getElem? (i := 193) rfl) rfl
theorem x_194 : (Jvm.Cond.declares ({ cls := "java/lang/RuntimeException", name := "<init>", desc := "()V" } : Jvm.MethodName)) ∈ lw_nw := nw_in (List.mem_append_right _ <| List.mem_append_left _ <| List.mem_of_getElem? (i := 194) rfl) rfl
theorem x_195 : (Jvm.Cond.declares ({ cls := "java/lang/RuntimeException", name := "<init>", desc := "(Ljava/lang/String;)V" } : Jvm.MethodName)) ∈ lw_nw := nw_in (List.mem_append_right _ <| List.mem_append_left _ <| List.mem_of_getElem? (i := 195) rfl) rfl
theorem x_196 : (Jvm.Cond.declares ({ cls := "java/lang/Exception", name := "<init>", desc := "()V" } : Jvm.MethodName)) ∈ lw_nw := nw_in (List.mem_append_right _ <| List.mem_append_left _ <| List.mem_of_getElem? (i := 196) rfl) rfl
theorem x_197 : (Jvm.Cond.declares ({ cls := "java/lang/Exception", name := "<init>", desc := "(Ljava/lang/String;)V" } : Jvm.MethodName)) ∈ lw_nw := nw_in (List.mem_append_right _ <| List.mem_append_left _ <| List.mem_of_getElem? (i := 197) rfl) rfl
theorem x_198 : (Jvm.Cond.declares ({ cls := "java/lang/Throwable", name := "<init>", desc := "()V" } : Jvm.MethodName)) ∈ lw_nw := nw_in (List.mem_append_right _ <| List.mem_append_left _ <| List.mem_of_getElem? (i := 198) rfl) rfl
theorem x_199 : (Jvm.Cond.declares ({ cls := "java/lang/Throwable", name := "<init>", desc := "(Ljava/lang/String;)V" } : Jvm.MethodName)) ∈ lw_nw := nw_in (List.mem_append_right _ <| List.mem_append_left _ <| List.mem_of_getElem? (i := 199) rfl) rfl
theorem x_200 : (Jvm.Cond.selects "java/lang/IndexOutOfBoundsException" ({ cls := "java/lang/Throwable", name := "fillInStackTrace", desc := "(I)Ljava/lang/Throwable;" } : Jvm.MethodName) ({ cls := "java/lang/Throwable", name := "fillInStackTrace", desc := "(I)Ljava/lang/Throwable;" } : Jvm.MethodName)) ∈ lw_ok := gd_in (List.mem_append_right _ <| List.mem_append_left _ <| List.mem_of_getElem? (i := 200) rfl) rfl
theorem x_201 : (Jvm.Cond.selects "java/lang/IndexOutOfBoundsException" ({ cls := "java/lang/Throwable", name := "fillInStackTrace", desc := "()Ljava/lang/Throwable;" } : Jvm.MethodName) ({ cls := "java/lang/Throwable", name := "fillInStackTrace", desc := "()Ljava/lang/Throwable;" } : Jvm.MethodName)) ∈ lw_ok := gd_in (List.mem_append_right _ <| List.mem_append_left _ <| List.mem_of_getElem? (i := 201) rfl) rfl
theorem x_212 : (Jvm.Cond.fieldLink "java/lang/Throwable" (198 : Nat) "java/lang/Throwable" "backtrace" "Ljava/lang/Object;") ∈ lw_ok := gd_in (List.mem_append_right _ <| List.mem_append_left _ <| List.mem_of_getElem? (i := 212) rfl) rfl
theorem x_213 : (Jvm.Cond.superclass "java/lang/Throwable" "java/lang/Object") ∈ lw_ok := gd_in (List.mem_append_right _ <| List.mem_append_left _ <| List.mem_of_getElem? (i := 213) rfl) rfl
theorem x_214 : (Jvm.Cond.instanceMethod ({ cls := "java/lang/Throwable", name := "<init>", desc := "()V" } : Jvm.MethodName)) ∈ lw_ok := gd_in (List.mem_append_right _ <| List.mem_append_left _ <| List.mem_of_getElem? (i := 214) rfl) rfl
theorem x_215 : (Jvm.Cond.code ({ cls := "java/lang/Throwable", name := "<init>", desc := "()V" } : Jvm.MethodName) prog_15_method_1_code (1 : Nat) (Option.none : Option Jvm.ClassFile.FieldType)) ∈ lw_ok := gd_in (List.mem_append_right _ <| List.mem_append_left _ <| List.mem_of_getElem? (i := 215) rfl) rfl
theorem x_216 : (Jvm.Cond.methodLink "java/lang/Throwable" (1 : Nat) ({ cls := "java/lang/Object", name := "<init>", desc := "()V" } : Jvm.MethodName)) ∈ lw_ok := gd_in (List.mem_append_right _ <| List.mem_append_left _ <| List.mem_of_getElem? (i := 216) rfl) rfl
theorem x_217 : (Jvm.Cond.fieldLink "java/lang/Throwable" (13 : Nat) "java/lang/Throwable" "UNASSIGNED_STACK" "[Ljava/lang/StackTraceElement;") ∈ lw_ok := gd_in (List.mem_append_right _ <| List.mem_append_left _ <| List.mem_of_getElem? (i := 217) rfl) rfl
theorem x_219 : (Jvm.Cond.fieldLink "java/lang/Throwable" (20 : Nat) "java/lang/Throwable" "SUPPRESSED_SENTINEL" "Ljava/util/List;") ∈ lw_ok := gd_in (List.mem_append_right _ <| List.mem_append_left _ <| List.mem_of_getElem? (i := 219) rfl) rfl
theorem x_221 : (Jvm.Cond.methodLink "java/lang/Throwable" (27 : Nat) ({ cls := "java/lang/Throwable", name := "fillInStackTrace", desc := "()Ljava/lang/Throwable;" } : Jvm.MethodName)) ∈ lw_ok := gd_in (List.mem_append_right _ <| List.mem_append_left _ <| List.mem_of_getElem? (i := 221) rfl) rfl
theorem x_222 : (Jvm.Cond.instanceMethod ({ cls := "java/lang/Throwable", name := "fillInStackTrace", desc := "()Ljava/lang/Throwable;" } : Jvm.MethodName)) ∈ lw_ok := gd_in (List.mem_append_right _ <| List.mem_append_left _ <| List.mem_of_getElem? (i := 222) rfl) rfl
theorem x_223 : (Jvm.Cond.sameMethod "java/lang/Throwable" "java/lang/Throwable" "fillInStackTrace" "()Ljava/lang/Throwable;") ∈ lw_ok := gd_in (List.mem_append_right _ <| List.mem_append_left _ <| List.mem_of_getElem? (i := 223) rfl) rfl
theorem x_224 : (Jvm.Cond.selects "java/lang/IllegalArgumentException" ({ cls := "java/lang/Throwable", name := "fillInStackTrace", desc := "()Ljava/lang/Throwable;" } : Jvm.MethodName) ({ cls := "java/lang/Throwable", name := "fillInStackTrace", desc := "()Ljava/lang/Throwable;" } : Jvm.MethodName)) ∈ lw_ok := gd_in (List.mem_append_right _ <| List.mem_append_left _ <| List.mem_of_getElem? (i := 224) rfl) rfl
theorem x_225 : (Jvm.Cond.selects "java/lang/UnsupportedOperationException" ({ cls := "java/lang/Throwable", name := "fillInStackTrace", desc := "()Ljava/lang/Throwable;" } : Jvm.MethodName) ({ cls := "java/lang/Throwable", name := "fillInStackTrace", desc := "()Ljava/lang/Throwable;" } : Jvm.MethodName)) ∈ lw_ok := gd_in (List.mem_append_right _ <| List.mem_append_left _ <| List.mem_of_getElem? (i := 225) rfl) rfl
theorem x_227 : (Jvm.Cond.methodLink "java/lang/Throwable" (202 : Nat) ({ cls := "java/lang/Throwable", name := "fillInStackTrace", desc := "(I)Ljava/lang/Throwable;" } : Jvm.MethodName)) ∈ lw_ok := gd_in (List.mem_append_right _ <| List.mem_append_left _ <| List.mem_of_getElem? (i := 227) rfl) rfl
theorem x_229 : (Jvm.Cond.instanceMethod ({ cls := "java/lang/Throwable", name := "fillInStackTrace", desc := "(I)Ljava/lang/Throwable;" } : Jvm.MethodName)) ∈ lw_ok := gd_in (List.mem_append_right _ <| List.mem_append_left _ <| List.mem_of_getElem? (i := 229) rfl) rfl
theorem x_230 : (Jvm.Cond.instantiable "java/lang/Throwable" (6 : Nat)) ∈ lw_ok := gd_in (List.mem_append_right _ <| List.mem_append_left _ <| List.mem_of_getElem? (i := 230) rfl) rfl
theorem x_231 : (Jvm.Cond.native ({ cls := "java/lang/Throwable", name := "fillInStackTrace", desc := "(I)Ljava/lang/Throwable;" } : Jvm.MethodName)) ∈ lw_ok := gd_in (List.mem_append_right _ <| List.mem_append_left _ <| List.mem_of_getElem? (i := 231) rfl) rfl
theorem x_232 : (Jvm.Cond.stringRef "LevelRows" (136 : Nat) "no such symbol") ∈ lw_nw := nw_in (List.mem_append_right _ <| List.mem_append_left _ <| List.mem_of_getElem? (i := 232) rfl) rfl
theorem x_233 : (Jvm.Cond.methodLink "LevelRows" (95 : Nat) ({ cls := "java/lang/IndexOutOfBoundsException", name := "<init>", desc := "(Ljava/lang/String;)V" } : Jvm.MethodName)) ∈ lw_ok := gd_in (List.mem_append_right _ <| List.mem_append_left _ <| List.mem_of_getElem? (i := 233) rfl) rfl
theorem x_234 : (Jvm.Cond.instanceMethod ({ cls := "java/lang/IndexOutOfBoundsException", name := "<init>", desc := "(Ljava/lang/String;)V" } : Jvm.MethodName)) ∈ lw_ok := gd_in (List.mem_append_right _ <| List.mem_append_left _ <| List.mem_of_getElem? (i := 234) rfl) rfl
theorem x_235 : (Jvm.Cond.code ({ cls := "java/lang/IndexOutOfBoundsException", name := "<init>", desc := "(Ljava/lang/String;)V" } : Jvm.MethodName) prog_8_method_2_code (2 : Nat) (Option.none : Option Jvm.ClassFile.FieldType)) ∈ lw_ok := gd_in (List.mem_append_right _ <| List.mem_append_left _ <| List.mem_of_getElem? (i := 235) rfl) rfl
theorem x_236 : (Jvm.Cond.methodLink "java/lang/IndexOutOfBoundsException" (7 : Nat) ({ cls := "java/lang/RuntimeException", name := "<init>", desc := "(Ljava/lang/String;)V" } : Jvm.MethodName)) ∈ lw_ok := gd_in (List.mem_append_right _ <| List.mem_append_left _ <| List.mem_of_getElem? (i := 236) rfl) rfl
theorem x_237 : (Jvm.Cond.instanceMethod ({ cls := "java/lang/RuntimeException", name := "<init>", desc := "(Ljava/lang/String;)V" } : Jvm.MethodName)) ∈ lw_ok := gd_in (List.mem_append_right _ <| List.mem_append_left _ <| List.mem_of_getElem? (i := 237) rfl) rfl
theorem x_238 : (Jvm.Cond.code ({ cls := "java/lang/RuntimeException", name := "<init>", desc := "(Ljava/lang/String;)V" } : Jvm.MethodName) prog_12_method_2_code (2 : Nat) (Option.none : Option Jvm.ClassFile.FieldType)) ∈ lw_ok := gd_in (List.mem_append_right _ <| List.mem_append_left _ <| List.mem_of_getElem? (i := 238) rfl) rfl
theorem x_239 : (Jvm.Cond.methodLink "java/lang/RuntimeException" (7 : Nat) ({ cls := "java/lang/Exception", name := "<init>", desc := "(Ljava/lang/String;)V" } : Jvm.MethodName)) ∈ lw_ok := gd_in (List.mem_append_right _ <| List.mem_append_left _ <| List.mem_of_getElem? (i := 239) rfl) rfl
theorem x_240 : (Jvm.Cond.instanceMethod ({ cls := "java/lang/Exception", name := "<init>", desc := "(Ljava/lang/String;)V" } : Jvm.MethodName)) ∈ lw_ok := gd_in (List.mem_append_right _ <| List.mem_append_right _ <| List.mem_append_left _ <| List.mem_of_getElem? (i := 0) rfl) rfl
theorem x_241 : (Jvm.Cond.code ({ cls := "java/lang/Exception", name := "<init>", desc := "(Ljava/lang/String;)V" } : Jvm.MethodName) prog_6_method_2_code (2 : Nat) (Option.none : Option Jvm.ClassFile.FieldType)) ∈ lw_ok := gd_in (List.mem_append_right _ <| List.mem_append_right _ <| List.mem_append_left _ <| List.mem_of_getElem? (i := 1) rfl) rfl
theorem x_242 : (Jvm.Cond.methodLink "java/lang/Exception" (7 : Nat) ({ cls := "java/lang/Throwable", name := "<init>", desc := "(Ljava/lang/String;)V" } : Jvm.MethodName)) ∈ lw_ok := gd_in (List.mem_append_right _ <| List.mem_append_right _ <| List.mem_append_left _ <| List.mem_of_getElem? (i := 2) rfl) rfl
theorem x_243 : (Jvm.Cond.instanceMethod ({ cls := "java/lang/Throwable", name := "<init>", desc := "(Ljava/lang/String;)V" } : Jvm.MethodName)) ∈ lw_ok := gd_in (List.mem_append_right _ <| List.mem_append_right _ <| List.mem_append_left _ <| List.mem_of_getElem? (i := 3) rfl) rfl
theorem x_244 : (Jvm.Cond.code ({ cls := "java/lang/Throwable", name := "<init>", desc := "(Ljava/lang/String;)V" } : Jvm.MethodName) prog_15_method_2_code (2 : Nat) (Option.none : Option Jvm.ClassFile.FieldType)) ∈ lw_ok := gd_in (List.mem_append_right _ <| List.mem_append_right _ <| List.mem_append_left _ <| List.mem_of_getElem? (i := 4) rfl) rfl
theorem x_245 : (Jvm.Cond.fieldLink "java/lang/Throwable" (198 : Nat) "java/lang/Throwable" "backtrace" "Ljava/lang/Object;") ∈ lw_ok := gd_in (List.mem_append_right _ <| List.mem_append_right _ <| List.mem_append_left _ <| List.mem_of_getElem? (i := 5) rfl) rfl
theorem x_246 : (Jvm.Cond.fieldLink "java/lang/Throwable" (31 : Nat) "java/lang/Throwable" "detailMessage" "Ljava/lang/String;") ∈ lw_ok := gd_in (List.mem_append_right _ <| List.mem_append_right _ <| List.mem_append_left _ <| List.mem_of_getElem? (i := 6) rfl) rfl
theorem x_247 : (Jvm.Cond.fieldLink "java/lang/Throwable" (7 : Nat) "java/lang/Throwable" "cause" "Ljava/lang/Throwable;") ∈ lw_ok := gd_in (List.mem_append_right _ <| List.mem_append_right _ <| List.mem_append_left _ <| List.mem_of_getElem? (i := 7) rfl) rfl
theorem x_248 : (Jvm.Cond.fieldLink "java/lang/Throwable" (17 : Nat) "java/lang/Throwable" "stackTrace" "[Ljava/lang/StackTraceElement;") ∈ lw_ok := gd_in (List.mem_append_right _ <| List.mem_append_right _ <| List.mem_append_left _ <| List.mem_of_getElem? (i := 8) rfl) rfl
theorem x_249 : (Jvm.Cond.fieldLink "java/lang/Throwable" (24 : Nat) "java/lang/Throwable" "suppressedExceptions" "Ljava/util/List;") ∈ lw_ok := gd_in (List.mem_append_right _ <| List.mem_append_right _ <| List.mem_append_left _ <| List.mem_of_getElem? (i := 9) rfl) rfl
theorem x_257 : (Jvm.Cond.superclass "java/lang/IndexOutOfBoundsException" "java/lang/RuntimeException") ∈ lw_ok := gd_in (List.mem_append_right _ <| List.mem_append_right _ <| List.mem_append_left _ <| List.mem_of_getElem? (i := 17) rfl) rfl
theorem x_258 : (Jvm.Cond.arrayClass Jvm.ClassFile.FieldType.byte) ∈ lw_ok := gd_in (List.mem_append_right _ <| List.mem_append_right _ <| List.mem_append_left _ <| List.mem_of_getElem? (i := 18) rfl) rfl
theorem x_259 : (Jvm.Cond.classLink "LevelRows" (67 : Nat) "java/lang/IllegalArgumentException") ∈ lw_ok := gd_in (List.mem_append_right _ <| List.mem_append_right _ <| List.mem_append_left _ <| List.mem_of_getElem? (i := 19) rfl) rfl
theorem x_260 : (Jvm.Cond.instantiable "java/lang/IllegalArgumentException" (6 : Nat)) ∈ lw_ok := gd_in (List.mem_append_right _ <| List.mem_append_right _ <| List.mem_append_left _ <| List.mem_of_getElem? (i := 20) rfl) rfl
theorem x_261 : (Jvm.Cond.castable "java/lang/IllegalArgumentException" "java/lang/IllegalArgumentException") ∈ lw_nw := nw_in (List.mem_append_right _ <| List.mem_append_right _ <| List.mem_append_left _ <| List.mem_of_getElem? (i := 21) rfl) rfl
theorem x_262 : (Jvm.Cond.selects "java/lang/IllegalArgumentException" ({ cls := "java/lang/Throwable", name := "fillInStackTrace", desc := "(I)Ljava/lang/Throwable;" } : Jvm.MethodName) ({ cls := "java/lang/Throwable", name := "fillInStackTrace", desc := "(I)Ljava/lang/Throwable;" } : Jvm.MethodName)) ∈ lw_ok := gd_in (List.mem_append_right _ <| List.mem_append_right _ <| List.mem_append_left _ <| List.mem_of_getElem? (i := 22) rfl) rfl
theorem x_268 : (Jvm.Cond.stringRef "LevelRows" (69 : Nat) "n is not 1 .. 10") ∈ lw_nw := nw_in (List.mem_append_right _ <| List.mem_append_right _ <| List.mem_append_left _ <| List.mem_of_getElem? (i := 28) rfl) rfl
theorem x_269 : (Jvm.Cond.methodLink "LevelRows" (71 : Nat) ({ cls := "java/lang/IllegalArgumentException", name := "<init>", desc := "(Ljava/lang/String;)V" } : Jvm.MethodName)) ∈ lw_ok := gd_in (List.mem_append_right _ <| List.mem_append_right _ <| List.mem_append_left _ <| List.mem_of_getElem? (i := 29) rfl) rfl
theorem x_270 : (Jvm.Cond.instanceMethod ({ cls := "java/lang/IllegalArgumentException", name := "<init>", desc := "(Ljava/lang/String;)V" } : Jvm.MethodName)) ∈ lw_ok := gd_in (List.mem_append_right _ <| List.mem_append_right _ <| List.mem_append_left _ <| List.mem_of_getElem? (i := 30) rfl) rfl
theorem x_271 : (Jvm.Cond.code ({ cls := "java/lang/IllegalArgumentException", name := "<init>", desc := "(Ljava/lang/String;)V" } : Jvm.MethodName) prog_7_method_2_code (2 : Nat) (Option.none : Option Jvm.ClassFile.FieldType)) ∈ lw_ok := gd_in (List.mem_append_right _ <| List.mem_append_right _ <| List.mem_append_left _ <| List.mem_of_getElem? (i := 31) rfl) rfl
theorem x_272 : (Jvm.Cond.methodLink "java/lang/IllegalArgumentException" (7 : Nat) ({ cls := "java/lang/RuntimeException", name := "<init>", desc := "(Ljava/lang/String;)V" } : Jvm.MethodName)) ∈ lw_ok := gd_in (List.mem_append_right _ <| List.mem_append_right _ <| List.mem_append_left _ <| List.mem_of_getElem? (i := 32) rfl) rfl
theorem x_274 : (Jvm.Cond.superclass "java/lang/IllegalArgumentException" "java/lang/RuntimeException") ∈ lw_ok := gd_in (List.mem_append_right _ <| List.mem_append_right _ <| List.mem_append_left _ <| List.mem_of_getElem? (i := 34) rfl) rfl
theorem x_275 : (Jvm.Cond.classLink "LevelRows" (80 : Nat) "java/lang/UnsupportedOperationException") ∈ lw_ok := gd_in (List.mem_append_right _ <| List.mem_append_right _ <| List.mem_append_left _ <| List.mem_of_getElem? (i := 35) rfl) rfl
theorem x_276 : (Jvm.Cond.instantiable "java/lang/UnsupportedOperationException" (6 : Nat)) ∈ lw_ok := gd_in (List.mem_append_right _ <| List.mem_append_right _ <| List.mem_append_left _ <| List.mem_of_getElem? (i := 36) rfl) rfl
theorem x_277 : (Jvm.Cond.castable "java/lang/UnsupportedOperationException" "java/lang/UnsupportedOperationException") ∈ lw_nw := nw_in (List.mem_append_right _ <| List.mem_append_right _ <| List.mem_append_left _ <| List.mem_of_getElem? (i := 37) rfl) rfl
theorem x_278 : (Jvm.Cond.selects "java/lang/UnsupportedOperationException" ({ cls := "java/lang/Throwable", name := "fillInStackTrace", desc := "(I)Ljava/lang/Throwable;" } : Jvm.MethodName) ({ cls := "java/lang/Throwable", name := "fillInStackTrace", desc := "(I)Ljava/lang/Throwable;" } : Jvm.MethodName)) ∈ lw_ok := gd_in (List.mem_append_right _ <| List.mem_append_right _ <| List.mem_append_left _ <| List.mem_of_getElem? (i := 38) rfl) rfl
theorem x_284 : (Jvm.Cond.stringRef "LevelRows" (82 : Nat) "more than 1000 symbols") ∈ lw_nw := nw_in (List.mem_append_right _ <| List.mem_append_right _ <| List.mem_append_left _ <| List.mem_of_getElem? (i := 44) rfl) rfl
theorem x_285 : (Jvm.Cond.methodLink "LevelRows" (84 : Nat) ({ cls := "java/lang/UnsupportedOperationException", name := "<init>", desc := "(Ljava/lang/String;)V" } : Jvm.MethodName)) ∈ lw_ok := gd_in (List.mem_append_right _ <| List.mem_append_right _ <| List.mem_append_left _ <| List.mem_of_getElem? (i := 45) rfl) rfl
theorem x_286 : (Jvm.Cond.instanceMethod ({ cls := "java/lang/UnsupportedOperationException", name := "<init>", desc := "(Ljava/lang/String;)V" } : Jvm.MethodName)) ∈ lw_ok := gd_in (List.mem_append_right _ <| List.mem_append_right _ <| List.mem_append_left _ <| List.mem_of_getElem? (i := 46) rfl) rfl
theorem x_287 : (Jvm.Cond.code ({ cls := "java/lang/UnsupportedOperationException", name := "<init>", desc := "(Ljava/lang/String;)V" } : Jvm.MethodName) prog_16_method_2_code (2 : Nat) (Option.none : Option Jvm.ClassFile.FieldType)) ∈ lw_ok := gd_in (List.mem_append_right _ <| List.mem_append_right _ <| List.mem_append_left _ <| List.mem_of_getElem? (i := 47) rfl) rfl
theorem x_288 : (Jvm.Cond.methodLink "java/lang/UnsupportedOperationException" (7 : Nat) ({ cls := "java/lang/RuntimeException", name := "<init>", desc := "(Ljava/lang/String;)V" } : Jvm.MethodName)) ∈ lw_ok := gd_in (List.mem_append_right _ <| List.mem_append_right _ <| List.mem_append_left _ <| List.mem_of_getElem? (i := 48) rfl) rfl
theorem x_290 : (Jvm.Cond.superclass "java/lang/UnsupportedOperationException" "java/lang/RuntimeException") ∈ lw_ok := gd_in (List.mem_append_right _ <| List.mem_append_right _ <| List.mem_append_left _ <| List.mem_of_getElem? (i := 50) rfl) rfl
theorem x_291 : (Jvm.Cond.methodLink "LevelRowsLaw" (77 : Nat) y_W_at) ∈ lw_ok := gd_in (List.mem_append_right _ <| List.mem_append_right _ <| List.mem_append_left _ <| List.mem_of_getElem? (i := 51) rfl) rfl
theorem x_292 : (Jvm.Cond.static y_W_at) ∈ lw_ok := gd_in (List.mem_append_right _ <| List.mem_append_right _ <| List.mem_append_left _ <| List.mem_of_getElem? (i := 52) rfl) rfl
theorem x_293 : (Jvm.Cond.codeWith y_W_at method_4_code (4 : Nat) (Option.some Jvm.ClassFile.FieldType.int) [((0 : Nat), (9 : Nat), (12 : Nat), (13 : Nat))]) ∈ lw_ok := gd_in (List.mem_append_right _ <| List.mem_append_right _ <| List.mem_append_left _ <| List.mem_of_getElem? (i := 53) rfl) rfl
theorem x_294 : (Jvm.Cond.methodLink "LevelRowsLaw" (19 : Nat) y_R_at) ∈ lw_ok := gd_in (List.mem_append_right _ <| List.mem_append_right _ <| List.mem_append_left _ <| List.mem_of_getElem? (i := 54) rfl) rfl
theorem x_295 : (Jvm.Cond.instanceMethod y_R_at) ∈ lw_ok := gd_in (List.mem_append_right _ <| List.mem_append_right _ <| List.mem_append_left _ <| List.mem_of_getElem? (i := 55) rfl) rfl
theorem x_296 : (Jvm.Cond.selects "LevelRows" y_R_at y_R_at) ∈ lw_ok := gd_in (List.mem_append_right _ <| List.mem_append_right _ <| List.mem_append_left _ <| List.mem_of_getElem? (i := 56) rfl) rfl
theorem x_297 : (Jvm.Cond.code y_R_at prog_1_method_4_code (2 : Nat) (Option.some Jvm.ClassFile.FieldType.int)) ∈ lw_ok := gd_in (List.mem_append_right _ <| List.mem_append_right _ <| List.mem_append_left _ <| List.mem_of_getElem? (i := 57) rfl) rfl
theorem x_298 : (Jvm.Cond.stringRef "LevelRows" (93 : Nat) "no such place") ∈ lw_nw := nw_in (List.mem_append_right _ <| List.mem_append_right _ <| List.mem_append_left _ <| List.mem_of_getElem? (i := 58) rfl) rfl
theorem x_299 : (Jvm.Cond.methodLink "LevelRowsLaw" (81 : Nat) y_W_rank) ∈ lw_ok := gd_in (List.mem_append_right _ <| List.mem_append_right _ <| List.mem_append_left _ <| List.mem_of_getElem? (i := 59) rfl) rfl
theorem x_300 : (Jvm.Cond.static y_W_rank) ∈ lw_ok := gd_in (List.mem_append_right _ <| List.mem_append_right _ <| List.mem_append_left _ <| List.mem_of_getElem? (i := 60) rfl) rfl
theorem x_301 : (Jvm.Cond.codeWith y_W_rank method_5_code (5 : Nat) (Option.some Jvm.ClassFile.FieldType.int) [((0 : Nat), (10 : Nat), (13 : Nat), (13 : Nat))]) ∈ lw_ok := gd_in (List.mem_append_right _ <| List.mem_append_right _ <| List.mem_append_left _ <| List.mem_of_getElem? (i := 61) rfl) rfl
theorem x_302 : (Jvm.Cond.methodLink "LevelRowsLaw" (23 : Nat) y_R_rank) ∈ lw_ok := gd_in (List.mem_append_right _ <| List.mem_append_right _ <| List.mem_append_left _ <| List.mem_of_getElem? (i := 62) rfl) rfl
theorem x_303 : (Jvm.Cond.instanceMethod y_R_rank) ∈ lw_ok := gd_in (List.mem_append_right _ <| List.mem_append_right _ <| List.mem_append_left _ <| List.mem_of_getElem? (i := 63) rfl) rfl
theorem x_304 : (Jvm.Cond.selects "LevelRows" y_R_rank y_R_rank) ∈ lw_ok := gd_in (List.mem_append_right _ <| List.mem_append_right _ <| List.mem_append_left _ <| List.mem_of_getElem? (i := 64) rfl) rfl
theorem x_305 : (Jvm.Cond.code y_R_rank prog_1_method_5_code (3 : Nat) (Option.some Jvm.ClassFile.FieldType.int)) ∈ lw_ok := gd_in (List.mem_append_right _ <| List.mem_append_right _ <| List.mem_append_left _ <| List.mem_of_getElem? (i := 65) rfl) rfl
theorem x_306 : (Jvm.Cond.methodLink "LevelRows" (96 : Nat) y_R_checkPart) ∈ lw_ok := gd_in (List.mem_append_right _ <| List.mem_append_right _ <| List.mem_append_left _ <| List.mem_of_getElem? (i := 66) rfl) rfl
theorem x_308 : (Jvm.Cond.instanceMethod y_R_checkPart) ∈ lw_ok := gd_in (List.mem_append_right _ <| List.mem_append_right _ <| List.mem_append_left _ <| List.mem_of_getElem? (i := 68) rfl) rfl
theorem x_309 : (Jvm.Cond.code y_R_checkPart prog_1_method_17_code (3 : Nat) (Option.none : Option Jvm.ClassFile.FieldType)) ∈ lw_ok := gd_in (List.mem_append_right _ <| List.mem_append_right _ <| List.mem_append_left _ <| List.mem_of_getElem? (i := 69) rfl) rfl
theorem x_310 : (Jvm.Cond.stringRef "LevelRows" (138 : Nat) "no such part") ∈ lw_nw := nw_in (List.mem_append_right _ <| List.mem_append_right _ <| List.mem_append_left _ <| List.mem_of_getElem? (i := 70) rfl) rfl
theorem x_311 : (Jvm.Cond.methodLink "LevelRows" (100 : Nat) y_P_span) ∈ lw_ok := gd_in (List.mem_append_right _ <| List.mem_append_right _ <| List.mem_append_left _ <| List.mem_of_getElem? (i := 71) rfl) rfl
theorem x_312 : (Jvm.Cond.instanceMethod y_P_span) ∈ lw_ok := gd_in (List.mem_append_right _ <| List.mem_append_right _ <| List.mem_append_left _ <| List.mem_of_getElem? (i := 72) rfl) rfl
theorem x_313 : (Jvm.Cond.selects "LevelRows$Part" y_P_span y_P_span) ∈ lw_ok := gd_in (List.mem_append_right _ <| List.mem_append_right _ <| List.mem_append_left _ <| List.mem_of_getElem? (i := 73) rfl) rfl
theorem x_314 : (Jvm.Cond.code y_P_span prog_3_method_2_code (3 : Nat) (Option.none : Option Jvm.ClassFile.FieldType)) ∈ lw_ok := gd_in (List.mem_append_right _ <| List.mem_append_right _ <| List.mem_append_left _ <| List.mem_of_getElem? (i := 74) rfl) rfl
theorem x_315 : (Jvm.Cond.methodLink "LevelRows" (103 : Nat) y_R_descendTo) ∈ lw_ok := gd_in (List.mem_append_right _ <| List.mem_append_right _ <| List.mem_append_left _ <| List.mem_of_getElem? (i := 75) rfl) rfl
theorem x_317 : (Jvm.Cond.instanceMethod y_R_descendTo) ∈ lw_ok := gd_in (List.mem_append_right _ <| List.mem_append_right _ <| List.mem_append_left _ <| List.mem_of_getElem? (i := 77) rfl) rfl
theorem x_318 : (Jvm.Cond.code y_R_descendTo prog_1_method_23_code (3 : Nat) (Option.none : Option Jvm.ClassFile.FieldType)) ∈ lw_ok := gd_in (List.mem_append_right _ <| List.mem_append_right _ <| List.mem_append_left _ <| List.mem_of_getElem? (i := 78) rfl) rfl
theorem x_319 : (Jvm.Cond.methodLink "LevelRows" (156 : Nat) y_P_split) ∈ lw_ok := gd_in (List.mem_append_right _ <| List.mem_append_right _ <| List.mem_append_left _ <| List.mem_of_getElem? (i := 79) rfl) rfl
theorem x_320 : (Jvm.Cond.instanceMethod y_P_split) ∈ lw_ok := gd_in (List.mem_append_right _ <| List.mem_append_right _ <| List.mem_append_left _ <| List.mem_of_getElem? (i := 80) rfl) rfl
theorem x_321 : (Jvm.Cond.selects "LevelRows$Part" y_P_split y_P_split) ∈ lw_ok := gd_in (List.mem_append_right _ <| List.mem_append_right _ <| List.mem_append_left _ <| List.mem_of_getElem? (i := 81) rfl) rfl
theorem x_322 : (Jvm.Cond.code y_P_split prog_3_method_4_code (2 : Nat) (Option.none : Option Jvm.ClassFile.FieldType)) ∈ lw_ok := gd_in (List.mem_append_right _ <| List.mem_append_right _ <| List.mem_append_left _ <| List.mem_of_getElem? (i := 82) rfl) rfl
theorem x_323 : (Jvm.Cond.methodLink "LevelRows$Part" (16 : Nat) y_L_zerosTo) ∈ lw_ok := gd_in (List.mem_append_right _ <| List.mem_append_right _ <| List.mem_append_left _ <| List.mem_of_getElem? (i := 83) rfl) rfl
theorem x_324 : (Jvm.Cond.methodLink "LevelRows" (160 : Nat) y_P_enter) ∈ lw_ok := gd_in (List.mem_append_right _ <| List.mem_append_right _ <| List.mem_append_left _ <| List.mem_of_getElem? (i := 84) rfl) rfl
theorem x_325 : (Jvm.Cond.instanceMethod y_P_enter) ∈ lw_ok := gd_in (List.mem_append_right _ <| List.mem_append_right _ <| List.mem_append_left _ <| List.mem_of_getElem? (i := 85) rfl) rfl
theorem x_326 : (Jvm.Cond.selects "LevelRows$Part" y_P_enter y_P_enter) ∈ lw_ok := gd_in (List.mem_append_right _ <| List.mem_append_right _ <| List.mem_append_left _ <| List.mem_of_getElem? (i := 86) rfl) rfl
theorem x_327 : (Jvm.Cond.code y_P_enter prog_3_method_6_code (2 : Nat) (Option.none : Option Jvm.ClassFile.FieldType)) ∈ lw_ok := gd_in (List.mem_append_right _ <| List.mem_append_right _ <| List.mem_append_left _ <| List.mem_of_getElem? (i := 87) rfl) rfl
theorem x_328 : (Jvm.Cond.methodLink "LevelRows" (106 : Nat) y_P_length) ∈ lw_ok := gd_in (List.mem_append_right _ <| List.mem_append_right _ <| List.mem_append_left _ <| List.mem_of_getElem? (i := 88) rfl) rfl
theorem x_329 : (Jvm.Cond.instanceMethod y_P_length) ∈ lw_ok := gd_in (List.mem_append_right _ <| List.mem_append_right _ <| List.mem_append_left _ <| List.mem_of_getElem? (i := 89) rfl) rfl
theorem x_330 : (Jvm.Cond.selects "LevelRows$Part" y_P_length y_P_length) ∈ lw_ok := gd_in (List.mem_append_right _ <| List.mem_append_right _ <| List.mem_append_left _ <| List.mem_of_getElem? (i := 90) rfl) rfl
theorem x_331 : (Jvm.Cond.code y_P_length prog_3_method_3_code (1 : Nat) (Option.some Jvm.ClassFile.FieldType.int)) ∈ lw_ok := gd_in (List.mem_append_right _ <| List.mem_append_right _ <| List.mem_append_left _ <| List.mem_of_getElem? (i := 91) rfl) rfl
theorem x_332 : (Jvm.Cond.methodLink "LevelRowsLaw" (85 : Nat) y_W_select) ∈ lw_ok := gd_in (List.mem_append_right _ <| List.mem_append_right _ <| List.mem_append_left _ <| List.mem_of_getElem? (i := 92) rfl) rfl
theorem x_333 : (Jvm.Cond.static y_W_select) ∈ lw_ok := gd_in (List.mem_append_right _ <| List.mem_append_right _ <| List.mem_append_left _ <| List.mem_of_getElem? (i := 93) rfl) rfl
theorem x_334 : (Jvm.Cond.codeWith y_W_select method_6_code (5 : Nat) (Option.some Jvm.ClassFile.FieldType.int) [((0 : Nat), (10 : Nat), (13 : Nat), (13 : Nat))]) ∈ lw_ok := gd_in (List.mem_append_right _ <| List.mem_append_right _ <| List.mem_append_left _ <| List.mem_of_getElem? (i := 94) rfl) rfl
theorem x_335 : (Jvm.Cond.methodLink "LevelRowsLaw" (27 : Nat) y_R_select) ∈ lw_ok := gd_in (List.mem_append_right _ <| List.mem_append_right _ <| List.mem_append_left _ <| List.mem_of_getElem? (i := 95) rfl) rfl
theorem x_336 : (Jvm.Cond.instanceMethod y_R_select) ∈ lw_ok := gd_in (List.mem_append_right _ <| List.mem_append_right _ <| List.mem_append_left _ <| List.mem_of_getElem? (i := 96) rfl) rfl
theorem x_337 : (Jvm.Cond.selects "LevelRows" y_R_select y_R_select) ∈ lw_ok := gd_in (List.mem_append_right _ <| List.mem_append_right _ <| List.mem_append_left _ <| List.mem_of_getElem? (i := 97) rfl) rfl
theorem x_338 : (Jvm.Cond.code y_R_select prog_1_method_6_code (3 : Nat) (Option.some Jvm.ClassFile.FieldType.int)) ∈ lw_ok := gd_in (List.mem_append_right _ <| List.mem_append_right _ <| List.mem_append_left _ <| List.mem_of_getElem? (i := 98) rfl) rfl
theorem x_339 : (Jvm.Cond.methodLink "LevelRows" (110 : Nat) y_R_checkNotNegative) ∈ lw_ok := gd_in (List.mem_append_right _ <| List.mem_append_right _ <| List.mem_append_left _ <| List.mem_of_getElem? (i := 99) rfl) rfl
theorem x_340 : (Jvm.Cond.static y_R_checkNotNegative) ∈ lw_ok := gd_in (List.mem_append_right _ <| List.mem_append_right _ <| List.mem_append_left _ <| List.mem_of_getElem? (i := 100) rfl) rfl
theorem x_341 : (Jvm.Cond.code y_R_checkNotNegative prog_1_method_18_code (1 : Nat) (Option.none : Option Jvm.ClassFile.FieldType)) ∈ lw_ok := gd_in (List.mem_append_right _ <| List.mem_append_right _ <| List.mem_append_left _ <| List.mem_of_getElem? (i := 101) rfl) rfl
theorem x_342 : (Jvm.Cond.stringRef "LevelRows" (140 : Nat) "k is below 0") ∈ lw_nw := nw_in (List.mem_append_right _ <| List.mem_append_right _ <| List.mem_append_left _ <| List.mem_of_getElem? (i := 102) rfl) rfl
theorem x_343 : (Jvm.Cond.methodLink "LevelRows" (116 : Nat) y_R_climbFrom) ∈ lw_ok := gd_in (List.mem_append_right _ <| List.mem_append_right _ <| List.mem_append_left _ <| List.mem_of_getElem? (i := 103) rfl) rfl
theorem x_345 : (Jvm.Cond.instanceMethod y_R_climbFrom) ∈ lw_ok := gd_in (List.mem_append_right _ <| List.mem_append_right _ <| List.mem_append_left _ <| List.mem_of_getElem? (i := 105) rfl) rfl
theorem x_346 : (Jvm.Cond.code y_R_climbFrom prog_1_method_24_code (4 : Nat) (Option.some Jvm.ClassFile.FieldType.int)) ∈ lw_ok := gd_in (List.mem_append_right _ <| List.mem_append_right _ <| List.mem_append_left _ <| List.mem_of_getElem? (i := 106) rfl) rfl
theorem x_347 : (Jvm.Cond.methodLink "LevelRows" (163 : Nat) y_L_placeAbove) ∈ lw_ok := gd_in (List.mem_append_right _ <| List.mem_append_right _ <| List.mem_append_left _ <| List.mem_of_getElem? (i := 107) rfl) rfl
theorem x_348 : (Jvm.Cond.instanceMethod y_L_placeAbove) ∈ lw_ok := gd_in (List.mem_append_right _ <| List.mem_append_right _ <| List.mem_append_left _ <| List.mem_of_getElem? (i := 108) rfl) rfl
theorem x_349 : (Jvm.Cond.selects "LevelRows$Level" y_L_placeAbove y_L_placeAbove) ∈ lw_ok := gd_in (List.mem_append_right _ <| List.mem_append_right _ <| List.mem_append_left _ <| List.mem_of_getElem? (i := 109) rfl) rfl
theorem x_350 : (Jvm.Cond.code y_L_placeAbove prog_2_method_7_code (8 : Nat) (Option.some Jvm.ClassFile.FieldType.int)) ∈ lw_ok := gd_in (List.mem_append_right _ <| List.mem_append_right _ <| List.mem_append_left _ <| List.mem_of_getElem? (i := 110) rfl) rfl
theorem x_351 : (Jvm.Cond.methodLink "LevelRows$Level" (54 : Nat) y_I_highestOneBit) ∈ lw_ok := gd_in (List.mem_append_right _ <| List.mem_append_right _ <| List.mem_append_left _ <| List.mem_of_getElem? (i := 111) rfl) rfl
theorem x_352 : (Jvm.Cond.static y_I_highestOneBit) ∈ lw_ok := gd_in (List.mem_append_right _ <| List.mem_append_right _ <| List.mem_append_left _ <| List.mem_of_getElem? (i := 112) rfl) rfl
theorem x_353 : (Jvm.Cond.code y_I_highestOneBit prog_9_method_45_code (1 : Nat) (Option.some Jvm.ClassFile.FieldType.int)) ∈ lw_ok := gd_in (List.mem_append_right _ <| List.mem_append_right _ <| List.mem_append_left _ <| List.mem_of_getElem? (i := 113) rfl) rfl
theorem x_354 : (Jvm.Cond.constant "java/lang/Integer" (127 : Nat) (-2147483648 : Int32)) ∈ lw_ok := gd_in (List.mem_append_right _ <| List.mem_append_right _ <| List.mem_append_left _ <| List.mem_of_getElem? (i := 114) rfl) rfl
theorem x_355 : (Jvm.Cond.methodLink "java/lang/Integer" (51 : Nat) y_I_numberOfLeadingZeros) ∈ lw_ok := gd_in (List.mem_append_right _ <| List.mem_append_right _ <| List.mem_append_left _ <| List.mem_of_getElem? (i := 115) rfl) rfl
theorem x_356 : (Jvm.Cond.methodLink "LevelRowsLaw" (88 : Nat) y_W_quantile) ∈ lw_ok := gd_in (List.mem_append_right _ <| List.mem_append_right _ <| List.mem_append_left _ <| List.mem_of_getElem? (i := 116) rfl) rfl
theorem x_357 : (Jvm.Cond.static y_W_quantile) ∈ lw_ok := gd_in (List.mem_append_right _ <| List.mem_append_right _ <| List.mem_append_left _ <| List.mem_of_getElem? (i := 117) rfl) rfl
theorem x_358 : (Jvm.Cond.codeWith y_W_quantile method_7_code (6 : Nat) (Option.some Jvm.ClassFile.FieldType.int) [((0 : Nat), (12 : Nat), (15 : Nat), (13 : Nat))]) ∈ lw_ok := gd_in (List.mem_append_right _ <| List.mem_append_right _ <| List.mem_append_left _ <| List.mem_of_getElem? (i := 118) rfl) rfl
theorem x_359 : (Jvm.Cond.methodLink "LevelRowsLaw" (30 : Nat) y_R_quantile) ∈ lw_ok := gd_in (List.mem_append_right _ <| List.mem_append_right _ <| List.mem_append_left _ <| List.mem_of_getElem? (i := 119) rfl) rfl
theorem x_360 : (Jvm.Cond.instanceMethod y_R_quantile) ∈ lw_ok := gd_in (List.mem_append_right _ <| List.mem_append_right _ <| List.mem_append_left _ <| List.mem_of_getElem? (i := 120) rfl) rfl
theorem x_361 : (Jvm.Cond.selects "LevelRows" y_R_quantile y_R_quantile) ∈ lw_ok := gd_in (List.mem_append_right _ <| List.mem_append_right _ <| List.mem_append_left _ <| List.mem_of_getElem? (i := 121) rfl) rfl
theorem x_362 : (Jvm.Cond.code y_R_quantile prog_1_method_7_code (4 : Nat) (Option.some Jvm.ClassFile.FieldType.int)) ∈ lw_ok := gd_in (List.mem_append_right _ <| List.mem_append_right _ <| List.mem_append_left _ <| List.mem_of_getElem? (i := 122) rfl) rfl
theorem x_363 : (Jvm.Cond.stringRef "LevelRows" (119 : Nat) "the part has not so many symbols") ∈ lw_nw := nw_in (List.mem_append_right _ <| List.mem_append_right _ <| List.mem_append_left _ <| List.mem_of_getElem? (i := 123) rfl) rfl
theorem x_364 : (Jvm.Cond.methodLink "LevelRows" (121 : Nat) y_R_kthLeast) ∈ lw_ok := gd_in (List.mem_append_right _ <| List.mem_append_right _ <| List.mem_append_left _ <| List.mem_of_getElem? (i := 124) rfl) rfl
theorem x_366 : (Jvm.Cond.instanceMethod y_R_kthLeast) ∈ lw_ok := gd_in (List.mem_append_right _ <| List.mem_append_right _ <| List.mem_append_left _ <| List.mem_of_getElem? (i := 126) rfl) rfl
theorem x_367 : (Jvm.Cond.code y_R_kthLeast prog_1_method_25_code (8 : Nat) (Option.some Jvm.ClassFile.FieldType.int)) ∈ lw_ok := gd_in (List.mem_append_right _ <| List.mem_append_right _ <| List.mem_append_left _ <| List.mem_of_getElem? (i := 127) rfl) rfl
theorem x_368 : (Jvm.Cond.methodLink "LevelRows" (166 : Nat) y_P_zeros) ∈ lw_ok := gd_in (List.mem_append_right _ <| List.mem_append_right _ <| List.mem_append_left _ <| List.mem_of_getElem? (i := 128) rfl) rfl
theorem x_369 : (Jvm.Cond.instanceMethod y_P_zeros) ∈ lw_ok := gd_in (List.mem_append_right _ <| List.mem_append_right _ <| List.mem_append_left _ <| List.mem_of_getElem? (i := 129) rfl) rfl
theorem x_370 : (Jvm.Cond.selects "LevelRows$Part" y_P_zeros y_P_zeros) ∈ lw_ok := gd_in (List.mem_append_right _ <| List.mem_append_right _ <| List.mem_append_left _ <| List.mem_of_getElem? (i := 130) rfl) rfl
theorem x_371 : (Jvm.Cond.code y_P_zeros prog_3_method_5_code (1 : Nat) (Option.some Jvm.ClassFile.FieldType.int)) ∈ lw_ok := gd_in (List.mem_append_right _ <| List.mem_append_right _ <| List.mem_append_left _ <| List.mem_of_getElem? (i := 131) rfl) rfl
theorem x_372 : (Jvm.Cond.methodLink "LevelRowsLaw" (92 : Nat) y_W_between) ∈ lw_ok := gd_in (List.mem_append_right _ <| List.mem_append_right _ <| List.mem_append_left _ <| List.mem_of_getElem? (i := 132) rfl) rfl
theorem x_373 : (Jvm.Cond.static y_W_between) ∈ lw_ok := gd_in (List.mem_append_right _ <| List.mem_append_right _ <| List.mem_append_left _ <| List.mem_of_getElem? (i := 133) rfl) rfl
theorem x_374 : (Jvm.Cond.codeWith y_W_between method_8_code (7 : Nat) (Option.some Jvm.ClassFile.FieldType.int) [((0 : Nat), (14 : Nat), (17 : Nat), (13 : Nat))]) ∈ lw_ok := gd_in (List.mem_append_right _ <| List.mem_append_right _ <| List.mem_append_left _ <| List.mem_of_getElem? (i := 134) rfl) rfl
theorem x_375 : (Jvm.Cond.methodLink "LevelRowsLaw" (34 : Nat) y_R_between) ∈ lw_ok := gd_in (List.mem_append_right _ <| List.mem_append_right _ <| List.mem_append_left _ <| List.mem_of_getElem? (i := 135) rfl) rfl
theorem x_376 : (Jvm.Cond.instanceMethod y_R_between) ∈ lw_ok := gd_in (List.mem_append_right _ <| List.mem_append_right _ <| List.mem_append_left _ <| List.mem_of_getElem? (i := 136) rfl) rfl
theorem x_377 : (Jvm.Cond.selects "LevelRows" y_R_between y_R_between) ∈ lw_ok := gd_in (List.mem_append_right _ <| List.mem_append_right _ <| List.mem_append_left _ <| List.mem_of_getElem? (i := 137) rfl) rfl
theorem x_378 : (Jvm.Cond.code y_R_between prog_1_method_8_code (5 : Nat) (Option.some Jvm.ClassFile.FieldType.int)) ∈ lw_ok := gd_in (List.mem_append_right _ <| List.mem_append_right _ <| List.mem_append_left _ <| List.mem_of_getElem? (i := 138) rfl) rfl
theorem x_379 : (Jvm.Cond.methodLink "LevelRows" (125 : Nat) y_R_howManyBelow) ∈ lw_ok := gd_in (List.mem_append_right _ <| List.mem_append_right _ <| List.mem_append_left _ <| List.mem_of_getElem? (i := 139) rfl) rfl
theorem x_381 : (Jvm.Cond.instanceMethod y_R_howManyBelow) ∈ lw_ok := gd_in (List.mem_append_right _ <| List.mem_append_right _ <| List.mem_append_left _ <| List.mem_of_getElem? (i := 141) rfl) rfl
theorem x_382 : (Jvm.Cond.code y_R_howManyBelow prog_1_method_26_code (7 : Nat) (Option.some Jvm.ClassFile.FieldType.int)) ∈ lw_ok := gd_in (List.mem_append_right _ <| List.mem_append_right _ <| List.mem_append_left _ <| List.mem_of_getElem? (i := 142) rfl) rfl
theorem x_383 : (Jvm.Cond.methodLink "LevelRowsLaw" (96 : Nat) y_W_below) ∈ lw_ok := gd_in (List.mem_append_right _ <| List.mem_append_right _ <| List.mem_append_left _ <| List.mem_of_getElem? (i := 143) rfl) rfl
theorem x_384 : (Jvm.Cond.static y_W_below) ∈ lw_ok := gd_in (List.mem_append_right _ <| List.mem_append_right _ <| List.mem_append_left _ <| List.mem_of_getElem? (i := 144) rfl) rfl
theorem x_385 : (Jvm.Cond.codeWith y_W_below method_9_code (6 : Nat) (Option.some Jvm.ClassFile.FieldType.int) [((0 : Nat), (12 : Nat), (15 : Nat), (13 : Nat))]) ∈ lw_ok := gd_in (List.mem_append_right _ <| List.mem_append_right _ <| List.mem_append_left _ <| List.mem_of_getElem? (i := 145) rfl) rfl
theorem x_386 : (Jvm.Cond.methodLink "LevelRowsLaw" (38 : Nat) y_R_below) ∈ lw_ok := gd_in (List.mem_append_right _ <| List.mem_append_right _ <| List.mem_append_left _ <| List.mem_of_getElem? (i := 146) rfl) rfl
theorem x_387 : (Jvm.Cond.instanceMethod y_R_below) ∈ lw_ok := gd_in (List.mem_append_right _ <| List.mem_append_right _ <| List.mem_append_left _ <| List.mem_of_getElem? (i := 147) rfl) rfl
theorem x_388 : (Jvm.Cond.selects "LevelRows" y_R_below y_R_below) ∈ lw_ok := gd_in (List.mem_append_right _ <| List.mem_append_right _ <| List.mem_append_left _ <| List.mem_of_getElem? (i := 148) rfl) rfl
theorem x_389 : (Jvm.Cond.code y_R_below prog_1_method_9_code (5 : Nat) (Option.some Jvm.ClassFile.FieldType.int)) ∈ lw_ok := gd_in (List.mem_append_right _ <| List.mem_append_right _ <| List.mem_append_left _ <| List.mem_of_getElem? (i := 149) rfl) rfl
theorem x_390 : (Jvm.Cond.methodLink "LevelRowsLaw" (99 : Nat) y_W_above) ∈ lw_ok := gd_in (List.mem_append_right _ <| List.mem_append_right _ <| List.mem_append_left _ <| List.mem_of_getElem? (i := 150) rfl) rfl
theorem x_391 : (Jvm.Cond.static y_W_above) ∈ lw_ok := gd_in (List.mem_append_right _ <| List.mem_append_right _ <| List.mem_append_left _ <| List.mem_of_getElem? (i := 151) rfl) rfl
theorem x_392 : (Jvm.Cond.codeWith y_W_above method_10_code (6 : Nat) (Option.some Jvm.ClassFile.FieldType.int) [((0 : Nat), (12 : Nat), (15 : Nat), (13 : Nat))]) ∈ lw_ok := gd_in (List.mem_append_right _ <| List.mem_append_right _ <| List.mem_append_left _ <| List.mem_of_getElem? (i := 152) rfl) rfl
theorem x_393 : (Jvm.Cond.methodLink "LevelRowsLaw" (41 : Nat) y_R_above) ∈ lw_ok := gd_in (List.mem_append_right _ <| List.mem_append_right _ <| List.mem_append_left _ <| List.mem_of_getElem? (i := 153) rfl) rfl
theorem x_394 : (Jvm.Cond.instanceMethod y_R_above) ∈ lw_ok := gd_in (List.mem_append_right _ <| List.mem_append_right _ <| List.mem_append_left _ <| List.mem_of_getElem? (i := 154) rfl) rfl
theorem x_395 : (Jvm.Cond.selects "LevelRows" y_R_above y_R_above) ∈ lw_ok := gd_in (List.mem_append_right _ <| List.mem_append_right _ <| List.mem_append_left _ <| List.mem_of_getElem? (i := 155) rfl) rfl
theorem x_396 : (Jvm.Cond.code y_R_above prog_1_method_10_code (5 : Nat) (Option.some Jvm.ClassFile.FieldType.int)) ∈ lw_ok := gd_in (List.mem_append_right _ <| List.mem_append_right _ <| List.mem_append_left _ <| List.mem_of_getElem? (i := 156) rfl) rfl
theorem x_397 : (Jvm.Cond.methodLink "LevelRowsLaw" (102 : Nat) y_W_different) ∈ lw_ok := gd_in (List.mem_append_right _ <| List.mem_append_right _ <| List.mem_append_left _ <| List.mem_of_getElem? (i := 157) rfl) rfl
theorem x_398 : (Jvm.Cond.static y_W_different) ∈ lw_ok := gd_in (List.mem_append_right _ <| List.mem_append_right _ <| List.mem_append_left _ <| List.mem_of_getElem? (i := 158) rfl) rfl
theorem x_399 : (Jvm.Cond.codeWith y_W_different method_11_code (5 : Nat) (Option.some Jvm.ClassFile.FieldType.int) [((0 : Nat), (10 : Nat), (13 : Nat), (13 : Nat))]) ∈ lw_ok := gd_in (List.mem_append_right _ <| List.mem_append_right _ <| List.mem_append_left _ <| List.mem_of_getElem? (i := 159) rfl) rfl
theorem x_400 : (Jvm.Cond.methodLink "LevelRowsLaw" (44 : Nat) y_R_different) ∈ lw_ok := gd_in (List.mem_append_right _ <| List.mem_append_right _ <| List.mem_append_left _ <| List.mem_of_getElem? (i := 160) rfl) rfl
theorem x_401 : (Jvm.Cond.instanceMethod y_R_different) ∈ lw_ok := gd_in (List.mem_append_right _ <| List.mem_append_right _ <| List.mem_append_left _ <| List.mem_of_getElem? (i := 161) rfl) rfl
theorem x_402 : (Jvm.Cond.selects "LevelRows" y_R_different y_R_different) ∈ lw_ok := gd_in (List.mem_append_right _ <| List.mem_append_right _ <| List.mem_append_left _ <| List.mem_of_getElem? (i := 162) rfl) rfl
theorem x_403 : (Jvm.Cond.code y_R_different prog_1_method_11_code (3 : Nat) (Option.some Jvm.ClassFile.FieldType.int)) ∈ lw_ok := gd_in (List.mem_append_right _ <| List.mem_append_right _ <| List.mem_append_left _ <| List.mem_of_getElem? (i := 163) rfl) rfl
theorem x_404 : (Jvm.Cond.methodLink "LevelRows" (128 : Nat) y_R_listSymbols) ∈ lw_ok := gd_in (List.mem_append_right _ <| List.mem_append_right _ <| List.mem_append_left _ <| List.mem_of_getElem? (i := 164) rfl) rfl
theorem x_406 : (Jvm.Cond.instanceMethod y_R_listSymbols) ∈ lw_ok := gd_in (List.mem_append_right _ <| List.mem_append_right _ <| List.mem_append_left _ <| List.mem_of_getElem? (i := 166) rfl) rfl
theorem x_407 : (Jvm.Cond.code y_R_listSymbols prog_1_method_27_code (6 : Nat) (Option.some Jvm.ClassFile.FieldType.int)) ∈ lw_ok := gd_in (List.mem_append_right _ <| List.mem_append_right _ <| List.mem_append_left _ <| List.mem_of_getElem? (i := 167) rfl) rfl
theorem x_408 : (Jvm.Cond.methodLink "LevelRowsLaw" (105 : Nat) y_W_frequent) ∈ lw_ok := gd_in (List.mem_append_right _ <| List.mem_append_right _ <| List.mem_append_left _ <| List.mem_of_getElem? (i := 168) rfl) rfl
theorem x_409 : (Jvm.Cond.static y_W_frequent) ∈ lw_ok := gd_in (List.mem_append_right _ <| List.mem_append_right _ <| List.mem_append_left _ <| List.mem_of_getElem? (i := 169) rfl) rfl
theorem x_410 : (Jvm.Cond.codeWith y_W_frequent method_12_code (6 : Nat) (Option.some Jvm.ClassFile.FieldType.int) [((0 : Nat), (12 : Nat), (15 : Nat), (13 : Nat))]) ∈ lw_ok := gd_in (List.mem_append_right _ <| List.mem_append_right _ <| List.mem_append_left _ <| List.mem_of_getElem? (i := 170) rfl) rfl
theorem x_411 : (Jvm.Cond.methodLink "LevelRowsLaw" (47 : Nat) y_R_frequent) ∈ lw_ok := gd_in (List.mem_append_right _ <| List.mem_append_right _ <| List.mem_append_left _ <| List.mem_of_getElem? (i := 171) rfl) rfl
theorem x_412 : (Jvm.Cond.instanceMethod y_R_frequent) ∈ lw_ok := gd_in (List.mem_append_right _ <| List.mem_append_right _ <| List.mem_append_left _ <| List.mem_of_getElem? (i := 172) rfl) rfl
theorem x_413 : (Jvm.Cond.selects "LevelRows" y_R_frequent y_R_frequent) ∈ lw_ok := gd_in (List.mem_append_right _ <| List.mem_append_right _ <| List.mem_append_left _ <| List.mem_of_getElem? (i := 173) rfl) rfl
theorem x_414 : (Jvm.Cond.code y_R_frequent prog_1_method_12_code (7 : Nat) (Option.some Jvm.ClassFile.FieldType.int)) ∈ lw_ok := gd_in (List.mem_append_right _ <| List.mem_append_right _ <| List.mem_append_left _ <| List.mem_of_getElem? (i := 174) rfl) rfl
theorem x_415 : (Jvm.Cond.methodLink "LevelRows" (131 : Nat) y_R_countAhead) ∈ lw_ok := gd_in (List.mem_append_right _ <| List.mem_append_right _ <| List.mem_append_left _ <| List.mem_of_getElem? (i := 175) rfl) rfl
theorem x_417 : (Jvm.Cond.instanceMethod y_R_countAhead) ∈ lw_ok := gd_in (List.mem_append_right _ <| List.mem_append_right _ <| List.mem_append_left _ <| List.mem_of_getElem? (i := 177) rfl) rfl
theorem x_418 : (Jvm.Cond.code y_R_countAhead prog_1_method_28_code (5 : Nat) (Option.none : Option Jvm.ClassFile.FieldType)) ∈ lw_ok := gd_in (List.mem_append_right _ <| List.mem_append_right _ <| List.mem_append_left _ <| List.mem_of_getElem? (i := 178) rfl) rfl
theorem x_419 : (Jvm.Cond.methodLink "LevelRows" (169 : Nat) y_A_fillI) ∈ lw_ok := gd_in (List.mem_append_right _ <| List.mem_append_right _ <| List.mem_append_left _ <| List.mem_of_getElem? (i := 179) rfl) rfl
theorem x_420 : (Jvm.Cond.static y_A_fillI) ∈ lw_ok := gd_in (List.mem_append_right _ <| List.mem_append_right _ <| List.mem_append_left _ <| List.mem_of_getElem? (i := 180) rfl) rfl
theorem x_421 : (Jvm.Cond.code y_A_fillI prog_17_method_103_code (4 : Nat) (Option.none : Option Jvm.ClassFile.FieldType)) ∈ lw_ok := gd_in (List.mem_append_right _ <| List.mem_append_right _ <| List.mem_append_left _ <| List.mem_of_getElem? (i := 181) rfl) rfl
theorem x_422 : (Jvm.Cond.methodLink "LevelRowsLaw" (112 : Nat) y_W_count) ∈ lw_ok := gd_in (List.mem_append_right _ <| List.mem_append_right _ <| List.mem_append_left _ <| List.mem_of_getElem? (i := 182) rfl) rfl
theorem x_423 : (Jvm.Cond.static y_W_count) ∈ lw_ok := gd_in (List.mem_append_right _ <| List.mem_append_right _ <| List.mem_append_left _ <| List.mem_of_getElem? (i := 183) rfl) rfl
theorem x_424 : (Jvm.Cond.codeWith y_W_count method_13_code (4 : Nat) (Option.some Jvm.ClassFile.FieldType.int) [((0 : Nat), (9 : Nat), (12 : Nat), (13 : Nat))]) ∈ lw_ok := gd_in (List.mem_append_right _ <| List.mem_append_right _ <| List.mem_append_left _ <| List.mem_of_getElem? (i := 184) rfl) rfl
theorem x_425 : (Jvm.Cond.methodLink "LevelRowsLaw" (50 : Nat) y_R_count) ∈ lw_ok := gd_in (List.mem_append_right _ <| List.mem_append_right _ <| List.mem_append_left _ <| List.mem_of_getElem? (i := 185) rfl) rfl
theorem x_426 : (Jvm.Cond.instanceMethod y_R_count) ∈ lw_ok := gd_in (List.mem_append_right _ <| List.mem_append_right _ <| List.mem_append_left _ <| List.mem_of_getElem? (i := 186) rfl) rfl
theorem x_427 : (Jvm.Cond.selects "LevelRows" y_R_count y_R_count) ∈ lw_ok := gd_in (List.mem_append_right _ <| List.mem_append_right _ <| List.mem_append_left _ <| List.mem_of_getElem? (i := 187) rfl) rfl
theorem x_428 : (Jvm.Cond.code y_R_count prog_1_method_14_code (2 : Nat) (Option.some Jvm.ClassFile.FieldType.int)) ∈ lw_ok := gd_in (List.mem_append_right _ <| List.mem_append_right _ <| List.mem_append_left _ <| List.mem_of_getElem? (i := 188) rfl) rfl
theorem x_429 : (Jvm.Cond.stringRef "LevelRows" (134 : Nat) "no such what") ∈ lw_nw := nw_in (List.mem_append_right _ <| List.mem_append_right _ <| List.mem_append_left _ <| List.mem_of_getElem? (i := 189) rfl) rfl
theorem x_430 : (Jvm.Cond.classLink "LevelRowsLaw" (62 : Nat) "LevelRowsModel") ∈ lw_ok := gd_in (List.mem_append_right _ <| List.mem_append_right _ <| List.mem_append_left _ <| List.mem_of_getElem? (i := 190) rfl) rfl
theorem x_431 : (Jvm.Cond.instantiable "LevelRowsModel" (7 : Nat)) ∈ lw_ok := gd_in (List.mem_append_right _ <| List.mem_append_right _ <| List.mem_append_left _ <| List.mem_of_getElem? (i := 191) rfl) rfl
theorem x_432 : (Jvm.Cond.methodLink "LevelRowsLaw" (64 : Nat) y_M_init) ∈ lw_ok := gd_in (List.mem_append_right _ <| List.mem_append_right _ <| List.mem_append_left _ <| List.mem_of_getElem? (i := 192) rfl) rfl
theorem x_433 : (Jvm.Cond.instanceMethod y_M_init) ∈ lw_ok := gd_in (List.mem_append_right _ <| List.mem_append_right _ <| List.mem_append_left _ <| List.mem_of_getElem? (i := 193) rfl) rfl
theorem x_434 : (Jvm.Cond.code y_M_init prog_5_method_1_code (2 : Nat) (Option.none : Option Jvm.ClassFile.FieldType)) ∈ lw_ok := gd_in (List.mem_append_right _ <| List.mem_append_right _ <| List.mem_append_left _ <| List.mem_of_getElem? (i := 194) rfl) rfl
theorem x_435 : (Jvm.Cond.methodLink "LevelRowsModel" (1 : Nat) ({ cls := "java/lang/Object", name := "<init>", desc := "()V" } : Jvm.MethodName)) ∈ lw_ok := gd_in (List.mem_append_right _ <| List.mem_append_right _ <| List.mem_append_left _ <| List.mem_of_getElem? (i := 195) rfl) rfl
theorem x_436 : (Jvm.Cond.constant "LevelRowsModel" (19 : Nat) (65536 : Int32)) ∈ lw_ok := gd_in (List.mem_append_right _ <| List.mem_append_right _ <| List.mem_append_left _ <| List.mem_of_getElem? (i := 196) rfl) rfl
theorem x_437 : (Jvm.Cond.fieldLink "LevelRowsModel" (24 : Nat) "LevelRowsModel" "thrown" "I") ∈ lw_ok := gd_in (List.mem_append_right _ <| List.mem_append_right _ <| List.mem_append_left _ <| List.mem_of_getElem? (i := 197) rfl) rfl
theorem x_438 : (Jvm.Cond.fieldLink "LevelRowsModel" (20 : Nat) "LevelRowsModel" "sigma" "I") ∈ lw_ok := gd_in (List.mem_append_right _ <| List.mem_append_right _ <| List.mem_append_left _ <| List.mem_of_getElem? (i := 198) rfl) rfl
theorem x_439 : (Jvm.Cond.fieldLink "LevelRowsModel" (7 : Nat) "LevelRowsModel" "row" "[I") ∈ lw_ok := gd_in (List.mem_append_right _ <| List.mem_append_right _ <| List.mem_append_left _ <| List.mem_of_getElem? (i := 199) rfl) rfl
theorem x_440 : (Jvm.Cond.fieldLink "LevelRowsModel" (35 : Nat) "LevelRowsModel" "built" "I") ∈ lw_ok := gd_in (List.mem_append_right _ <| List.mem_append_right _ <| List.mem_append_left _ <| List.mem_of_getElem? (i := 200) rfl) rfl
theorem x_441 : (Jvm.Cond.fieldLink "LevelRowsModel" (32 : Nat) "LevelRowsModel" "all" "I") ∈ lw_ok := gd_in (List.mem_append_right _ <| List.mem_append_right _ <| List.mem_append_left _ <| List.mem_of_getElem? (i := 201) rfl) rfl
theorem x_442 : (Jvm.Cond.fieldLink "LevelRowsModel" (13 : Nat) "LevelRowsModel" "symbols" "[I") ∈ lw_ok := gd_in (List.mem_append_right _ <| List.mem_append_right _ <| List.mem_append_left _ <| List.mem_of_getElem? (i := 202) rfl) rfl
theorem x_443 : (Jvm.Cond.fieldLink "LevelRowsModel" (16 : Nat) "LevelRowsModel" "often" "[I") ∈ lw_ok := gd_in (List.mem_append_right _ <| List.mem_append_right _ <| List.mem_append_left _ <| List.mem_of_getElem? (i := 203) rfl) rfl
theorem x_458 : (Jvm.Cond.superclass "LevelRowsModel" "java/lang/Object") ∈ lw_ok := gd_in (List.mem_append_right _ <| List.mem_append_right _ <| List.mem_append_left _ <| List.mem_of_getElem? (i := 218) rfl) rfl
theorem x_459 : (Jvm.Cond.methodLink "LevelRowsLaw" (69 : Nat) y_M_thrown) ∈ lw_ok := gd_in (List.mem_append_right _ <| List.mem_append_right _ <| List.mem_append_left _ <| List.mem_of_getElem? (i := 219) rfl) rfl
theorem x_460 : (Jvm.Cond.instanceMethod y_M_thrown) ∈ lw_ok := gd_in (List.mem_append_right _ <| List.mem_append_right _ <| List.mem_append_left _ <| List.mem_of_getElem? (i := 220) rfl) rfl
theorem x_461 : (Jvm.Cond.selects "LevelRowsModel" y_M_thrown y_M_thrown) ∈ lw_ok := gd_in (List.mem_append_right _ <| List.mem_append_right _ <| List.mem_append_left _ <| List.mem_of_getElem? (i := 221) rfl) rfl
theorem x_462 : (Jvm.Cond.code y_M_thrown prog_5_method_2_code (1 : Nat) (Option.some Jvm.ClassFile.FieldType.int)) ∈ lw_ok := gd_in (List.mem_append_right _ <| List.mem_append_right _ <| List.mem_append_left _ <| List.mem_of_getElem? (i := 222) rfl) rfl
theorem x_463 : (Jvm.Cond.methodLink "LevelRowsLaw" (68 : Nat) y_M_put) ∈ lw_ok := gd_in (List.mem_append_right _ <| List.mem_append_right _ <| List.mem_append_left _ <| List.mem_of_getElem? (i := 223) rfl) rfl
theorem x_464 : (Jvm.Cond.instanceMethod y_M_put) ∈ lw_ok := gd_in (List.mem_append_right _ <| List.mem_append_right _ <| List.mem_append_left _ <| List.mem_of_getElem? (i := 224) rfl) rfl
theorem x_465 : (Jvm.Cond.selects "LevelRowsModel" y_M_put y_M_put) ∈ lw_ok := gd_in (List.mem_append_right _ <| List.mem_append_right _ <| List.mem_append_left _ <| List.mem_of_getElem? (i := 225) rfl) rfl
theorem x_466 : (Jvm.Cond.code y_M_put prog_5_method_4_code (9 : Nat) (Option.some Jvm.ClassFile.FieldType.int)) ∈ lw_ok := gd_in (List.mem_append_right _ <| List.mem_append_right _ <| List.mem_append_left _ <| List.mem_of_getElem? (i := 226) rfl) rfl
theorem x_467 : (Jvm.Cond.methodLink "LevelRowsModel" (28 : Nat) y_M_given) ∈ lw_ok := gd_in (List.mem_append_right _ <| List.mem_append_right _ <| List.mem_append_left _ <| List.mem_of_getElem? (i := 227) rfl) rfl
theorem x_468 : (Jvm.Cond.static y_M_given) ∈ lw_ok := gd_in (List.mem_append_right _ <| List.mem_append_right _ <| List.mem_append_left _ <| List.mem_of_getElem? (i := 228) rfl) rfl
theorem x_469 : (Jvm.Cond.code y_M_given prog_5_method_3_code (7 : Nat) (Option.some Jvm.ClassFile.FieldType.int)) ∈ lw_ok := gd_in (List.mem_append_right _ <| List.mem_append_right _ <| List.mem_append_left _ <| List.mem_of_getElem? (i := 229) rfl) rfl
theorem x_470 : (Jvm.Cond.constant "LevelRowsModel" (27 : Nat) (65535 : Int32)) ∈ lw_ok := gd_in (List.mem_append_right _ <| List.mem_append_right _ <| List.mem_append_left _ <| List.mem_of_getElem? (i := 230) rfl) rfl
theorem x_471 : (Jvm.Cond.methodLink "LevelRowsLaw" (76 : Nat) y_M_build) ∈ lw_ok := gd_in (List.mem_append_right _ <| List.mem_append_right _ <| List.mem_append_left _ <| List.mem_of_getElem? (i := 231) rfl) rfl
theorem x_472 : (Jvm.Cond.instanceMethod y_M_build) ∈ lw_ok := gd_in (List.mem_append_right _ <| List.mem_append_right _ <| List.mem_append_left _ <| List.mem_of_getElem? (i := 232) rfl) rfl
theorem x_473 : (Jvm.Cond.selects "LevelRowsModel" y_M_build y_M_build) ∈ lw_ok := gd_in (List.mem_append_right _ <| List.mem_append_right _ <| List.mem_append_left _ <| List.mem_of_getElem? (i := 233) rfl) rfl
theorem x_474 : (Jvm.Cond.code y_M_build prog_5_method_5_code (1 : Nat) (Option.some Jvm.ClassFile.FieldType.int)) ∈ lw_ok := gd_in (List.mem_append_right _ <| List.mem_append_right _ <| List.mem_append_left _ <| List.mem_of_getElem? (i := 234) rfl) rfl
theorem x_475 : (Jvm.Cond.methodLink "LevelRowsLaw" (118 : Nat) y_M_clear) ∈ lw_ok := gd_in (List.mem_append_right _ <| List.mem_append_right _ <| List.mem_append_left _ <| List.mem_of_getElem? (i := 235) rfl) rfl
theorem x_476 : (Jvm.Cond.instanceMethod y_M_clear) ∈ lw_ok := gd_in (List.mem_append_right _ <| List.mem_append_right _ <| List.mem_append_left _ <| List.mem_of_getElem? (i := 236) rfl) rfl
theorem x_477 : (Jvm.Cond.selects "LevelRowsModel" y_M_clear y_M_clear) ∈ lw_ok := gd_in (List.mem_append_right _ <| List.mem_append_right _ <| List.mem_append_left _ <| List.mem_of_getElem? (i := 237) rfl) rfl
theorem x_478 : (Jvm.Cond.code y_M_clear prog_5_method_6_code (1 : Nat) (Option.none : Option Jvm.ClassFile.FieldType)) ∈ lw_ok := gd_in (List.mem_append_right _ <| List.mem_append_right _ <| List.mem_append_left _ <| List.mem_of_getElem? (i := 238) rfl) rfl
theorem x_479 : (Jvm.Cond.methodLink "LevelRowsLaw" (80 : Nat) y_M_at) ∈ lw_ok := gd_in (List.mem_append_right _ <| List.mem_append_right _ <| List.mem_append_left _ <| List.mem_of_getElem? (i := 239) rfl) rfl
theorem x_480 : (Jvm.Cond.instanceMethod y_M_at) ∈ lw_ok := gd_in (List.mem_append_right _ <| List.mem_append_right _ <| List.mem_append_right _ <| List.mem_of_getElem? (i := 0) rfl) rfl
theorem x_481 : (Jvm.Cond.selects "LevelRowsModel" y_M_at y_M_at) ∈ lw_ok := gd_in (List.mem_append_right _ <| List.mem_append_right _ <| List.mem_append_right _ <| List.mem_of_getElem? (i := 1) rfl) rfl
theorem x_482 : (Jvm.Cond.code y_M_at prog_5_method_7_code (2 : Nat) (Option.some Jvm.ClassFile.FieldType.int)) ∈ lw_ok := gd_in (List.mem_append_right _ <| List.mem_append_right _ <| List.mem_append_right _ <| List.mem_of_getElem? (i := 2) rfl) rfl
theorem x_483 : (Jvm.Cond.methodLink "LevelRowsLaw" (84 : Nat) y_M_rank) ∈ lw_ok := gd_in (List.mem_append_right _ <| List.mem_append_right _ <| List.mem_append_right _ <| List.mem_of_getElem? (i := 3) rfl) rfl
theorem x_484 : (Jvm.Cond.instanceMethod y_M_rank) ∈ lw_ok := gd_in (List.mem_append_right _ <| List.mem_append_right _ <| List.mem_append_right _ <| List.mem_of_getElem? (i := 4) rfl) rfl
theorem x_485 : (Jvm.Cond.selects "LevelRowsModel" y_M_rank y_M_rank) ∈ lw_ok := gd_in (List.mem_append_right _ <| List.mem_append_right _ <| List.mem_append_right _ <| List.mem_of_getElem? (i := 5) rfl) rfl
theorem x_486 : (Jvm.Cond.code y_M_rank prog_5_method_10_code (5 : Nat) (Option.some Jvm.ClassFile.FieldType.int)) ∈ lw_ok := gd_in (List.mem_append_right _ <| List.mem_append_right _ <| List.mem_append_right _ <| List.mem_of_getElem? (i := 6) rfl) rfl
theorem x_487 : (Jvm.Cond.methodLink "LevelRowsModel" (38 : Nat) y_M_isSymbol) ∈ lw_ok := gd_in (List.mem_append_right _ <| List.mem_append_right _ <| List.mem_append_right _ <| List.mem_of_getElem? (i := 7) rfl) rfl
theorem x_489 : (Jvm.Cond.instanceMethod y_M_isSymbol) ∈ lw_ok := gd_in (List.mem_append_right _ <| List.mem_append_right _ <| List.mem_append_right _ <| List.mem_of_getElem? (i := 9) rfl) rfl
theorem x_490 : (Jvm.Cond.code y_M_isSymbol prog_5_method_8_code (2 : Nat) (Option.some Jvm.ClassFile.FieldType.boolean)) ∈ lw_ok := gd_in (List.mem_append_right _ <| List.mem_append_right _ <| List.mem_append_right _ <| List.mem_of_getElem? (i := 10) rfl) rfl
theorem x_491 : (Jvm.Cond.methodLink "LevelRowsLaw" (87 : Nat) y_M_select) ∈ lw_ok := gd_in (List.mem_append_right _ <| List.mem_append_right _ <| List.mem_append_right _ <| List.mem_of_getElem? (i := 11) rfl) rfl
theorem x_492 : (Jvm.Cond.instanceMethod y_M_select) ∈ lw_ok := gd_in (List.mem_append_right _ <| List.mem_append_right _ <| List.mem_append_right _ <| List.mem_of_getElem? (i := 12) rfl) rfl
theorem x_493 : (Jvm.Cond.selects "LevelRowsModel" y_M_select y_M_select) ∈ lw_ok := gd_in (List.mem_append_right _ <| List.mem_append_right _ <| List.mem_append_right _ <| List.mem_of_getElem? (i := 13) rfl) rfl
theorem x_494 : (Jvm.Cond.code y_M_select prog_5_method_11_code (5 : Nat) (Option.some Jvm.ClassFile.FieldType.int)) ∈ lw_ok := gd_in (List.mem_append_right _ <| List.mem_append_right _ <| List.mem_append_right _ <| List.mem_of_getElem? (i := 14) rfl) rfl
theorem x_495 : (Jvm.Cond.methodLink "LevelRowsLaw" (91 : Nat) y_M_quantile) ∈ lw_ok := gd_in (List.mem_append_right _ <| List.mem_append_right _ <| List.mem_append_right _ <| List.mem_of_getElem? (i := 15) rfl) rfl
theorem x_496 : (Jvm.Cond.instanceMethod y_M_quantile) ∈ lw_ok := gd_in (List.mem_append_right _ <| List.mem_append_right _ <| List.mem_append_right _ <| List.mem_of_getElem? (i := 16) rfl) rfl
theorem x_497 : (Jvm.Cond.selects "LevelRowsModel" y_M_quantile y_M_quantile) ∈ lw_ok := gd_in (List.mem_append_right _ <| List.mem_append_right _ <| List.mem_append_right _ <| List.mem_of_getElem? (i := 17) rfl) rfl
theorem x_498 : (Jvm.Cond.code y_M_quantile prog_5_method_13_code (6 : Nat) (Option.some Jvm.ClassFile.FieldType.int)) ∈ lw_ok := gd_in (List.mem_append_right _ <| List.mem_append_right _ <| List.mem_append_right _ <| List.mem_of_getElem? (i := 18) rfl) rfl
theorem x_499 : (Jvm.Cond.methodLink "LevelRowsModel" (42 : Nat) y_M_isPart) ∈ lw_ok := gd_in (List.mem_append_right _ <| List.mem_append_right _ <| List.mem_append_right _ <| List.mem_of_getElem? (i := 19) rfl) rfl
theorem x_501 : (Jvm.Cond.instanceMethod y_M_isPart) ∈ lw_ok := gd_in (List.mem_append_right _ <| List.mem_append_right _ <| List.mem_append_right _ <| List.mem_of_getElem? (i := 21) rfl) rfl
theorem x_502 : (Jvm.Cond.code y_M_isPart prog_5_method_9_code (3 : Nat) (Option.some Jvm.ClassFile.FieldType.boolean)) ∈ lw_ok := gd_in (List.mem_append_right _ <| List.mem_append_right _ <| List.mem_append_right _ <| List.mem_of_getElem? (i := 22) rfl) rfl
theorem x_503 : (Jvm.Cond.methodLink "LevelRowsModel" (46 : Nat) y_M_gather) ∈ lw_ok := gd_in (List.mem_append_right _ <| List.mem_append_right _ <| List.mem_append_right _ <| List.mem_of_getElem? (i := 23) rfl) rfl
theorem x_505 : (Jvm.Cond.instanceMethod y_M_gather) ∈ lw_ok := gd_in (List.mem_append_right _ <| List.mem_append_right _ <| List.mem_append_right _ <| List.mem_of_getElem? (i := 25) rfl) rfl
theorem x_506 : (Jvm.Cond.code y_M_gather prog_5_method_12_code (7 : Nat) (Option.some Jvm.ClassFile.FieldType.int)) ∈ lw_ok := gd_in (List.mem_append_right _ <| List.mem_append_right _ <| List.mem_append_right _ <| List.mem_of_getElem? (i := 26) rfl) rfl
theorem x_507 : (Jvm.Cond.methodLink "LevelRowsLaw" (95 : Nat) y_M_between) ∈ lw_ok := gd_in (List.mem_append_right _ <| List.mem_append_right _ <| List.mem_append_right _ <| List.mem_of_getElem? (i := 27) rfl) rfl
theorem x_508 : (Jvm.Cond.instanceMethod y_M_between) ∈ lw_ok := gd_in (List.mem_append_right _ <| List.mem_append_right _ <| List.mem_append_right _ <| List.mem_of_getElem? (i := 28) rfl) rfl
theorem x_509 : (Jvm.Cond.selects "LevelRowsModel" y_M_between y_M_between) ∈ lw_ok := gd_in (List.mem_append_right _ <| List.mem_append_right _ <| List.mem_append_right _ <| List.mem_of_getElem? (i := 29) rfl) rfl
theorem x_510 : (Jvm.Cond.code y_M_between prog_5_method_14_code (7 : Nat) (Option.some Jvm.ClassFile.FieldType.int)) ∈ lw_ok := gd_in (List.mem_append_right _ <| List.mem_append_right _ <| List.mem_append_right _ <| List.mem_of_getElem? (i := 30) rfl) rfl
theorem x_511 : (Jvm.Cond.methodLink "LevelRowsLaw" (98 : Nat) y_M_below) ∈ lw_ok := gd_in (List.mem_append_right _ <| List.mem_append_right _ <| List.mem_append_right _ <| List.mem_of_getElem? (i := 31) rfl) rfl
theorem x_512 : (Jvm.Cond.instanceMethod y_M_below) ∈ lw_ok := gd_in (List.mem_append_right _ <| List.mem_append_right _ <| List.mem_append_right _ <| List.mem_of_getElem? (i := 32) rfl) rfl
theorem x_513 : (Jvm.Cond.selects "LevelRowsModel" y_M_below y_M_below) ∈ lw_ok := gd_in (List.mem_append_right _ <| List.mem_append_right _ <| List.mem_append_right _ <| List.mem_of_getElem? (i := 33) rfl) rfl
theorem x_514 : (Jvm.Cond.code y_M_below prog_5_method_15_code (6 : Nat) (Option.some Jvm.ClassFile.FieldType.int)) ∈ lw_ok := gd_in (List.mem_append_right _ <| List.mem_append_right _ <| List.mem_append_right _ <| List.mem_of_getElem? (i := 34) rfl) rfl
theorem x_515 : (Jvm.Cond.methodLink "LevelRowsLaw" (101 : Nat) y_M_above) ∈ lw_ok := gd_in (List.mem_append_right _ <| List.mem_append_right _ <| List.mem_append_right _ <| List.mem_of_getElem? (i := 35) rfl) rfl
theorem x_516 : (Jvm.Cond.instanceMethod y_M_above) ∈ lw_ok := gd_in (List.mem_append_right _ <| List.mem_append_right _ <| List.mem_append_right _ <| List.mem_of_getElem? (i := 36) rfl) rfl
theorem x_517 : (Jvm.Cond.selects "LevelRowsModel" y_M_above y_M_above) ∈ lw_ok := gd_in (List.mem_append_right _ <| List.mem_append_right _ <| List.mem_append_right _ <| List.mem_of_getElem? (i := 37) rfl) rfl
theorem x_518 : (Jvm.Cond.code y_M_above prog_5_method_16_code (6 : Nat) (Option.some Jvm.ClassFile.FieldType.int)) ∈ lw_ok := gd_in (List.mem_append_right _ <| List.mem_append_right _ <| List.mem_append_right _ <| List.mem_of_getElem? (i := 38) rfl) rfl
theorem x_519 : (Jvm.Cond.methodLink "LevelRowsLaw" (104 : Nat) y_M_different) ∈ lw_ok := gd_in (List.mem_append_right _ <| List.mem_append_right _ <| List.mem_append_right _ <| List.mem_of_getElem? (i := 39) rfl) rfl
theorem x_520 : (Jvm.Cond.instanceMethod y_M_different) ∈ lw_ok := gd_in (List.mem_append_right _ <| List.mem_append_right _ <| List.mem_append_right _ <| List.mem_of_getElem? (i := 40) rfl) rfl
theorem x_521 : (Jvm.Cond.selects "LevelRowsModel" y_M_different y_M_different) ∈ lw_ok := gd_in (List.mem_append_right _ <| List.mem_append_right _ <| List.mem_append_right _ <| List.mem_of_getElem? (i := 41) rfl) rfl
theorem x_522 : (Jvm.Cond.code y_M_different prog_5_method_17_code (3 : Nat) (Option.some Jvm.ClassFile.FieldType.int)) ∈ lw_ok := gd_in (List.mem_append_right _ <| List.mem_append_right _ <| List.mem_append_right _ <| List.mem_of_getElem? (i := 42) rfl) rfl
theorem x_523 : (Jvm.Cond.methodLink "LevelRowsLaw" (107 : Nat) y_M_frequent) ∈ lw_ok := gd_in (List.mem_append_right _ <| List.mem_append_right _ <| List.mem_append_right _ <| List.mem_of_getElem? (i := 43) rfl) rfl
theorem x_524 : (Jvm.Cond.instanceMethod y_M_frequent) ∈ lw_ok := gd_in (List.mem_append_right _ <| List.mem_append_right _ <| List.mem_append_right _ <| List.mem_of_getElem? (i := 44) rfl) rfl
theorem x_525 : (Jvm.Cond.selects "LevelRowsModel" y_M_frequent y_M_frequent) ∈ lw_ok := gd_in (List.mem_append_right _ <| List.mem_append_right _ <| List.mem_append_right _ <| List.mem_of_getElem? (i := 45) rfl) rfl
theorem x_526 : (Jvm.Cond.code y_M_frequent prog_5_method_18_code (8 : Nat) (Option.some Jvm.ClassFile.FieldType.int)) ∈ lw_ok := gd_in (List.mem_append_right _ <| List.mem_append_right _ <| List.mem_append_right _ <| List.mem_of_getElem? (i := 46) rfl) rfl
theorem x_527 : (Jvm.Cond.methodLink "LevelRowsLaw" (111 : Nat) y_M_bits) ∈ lw_ok := gd_in (List.mem_append_right _ <| List.mem_append_right _ <| List.mem_append_right _ <| List.mem_of_getElem? (i := 47) rfl) rfl
theorem x_528 : (Jvm.Cond.instanceMethod y_M_bits) ∈ lw_ok := gd_in (List.mem_append_right _ <| List.mem_append_right _ <| List.mem_append_right _ <| List.mem_of_getElem? (i := 48) rfl) rfl
theorem x_529 : (Jvm.Cond.selects "LevelRowsModel" y_M_bits y_M_bits) ∈ lw_ok := gd_in (List.mem_append_right _ <| List.mem_append_right _ <| List.mem_append_right _ <| List.mem_of_getElem? (i := 49) rfl) rfl
theorem x_530 : (Jvm.Cond.code y_M_bits prog_5_method_20_code (1 : Nat) (Option.some Jvm.ClassFile.FieldType.int)) ∈ lw_ok := gd_in (List.mem_append_right _ <| List.mem_append_right _ <| List.mem_append_right _ <| List.mem_of_getElem? (i := 50) rfl) rfl
theorem x_531 : (Jvm.Cond.methodLink "LevelRowsModel" (50 : Nat) y_M_levels) ∈ lw_ok := gd_in (List.mem_append_right _ <| List.mem_append_right _ <| List.mem_append_right _ <| List.mem_of_getElem? (i := 51) rfl) rfl
theorem x_533 : (Jvm.Cond.instanceMethod y_M_levels) ∈ lw_ok := gd_in (List.mem_append_right _ <| List.mem_append_right _ <| List.mem_append_right _ <| List.mem_of_getElem? (i := 53) rfl) rfl
theorem x_534 : (Jvm.Cond.code y_M_levels prog_5_method_19_code (2 : Nat) (Option.some Jvm.ClassFile.FieldType.int)) ∈ lw_ok := gd_in (List.mem_append_right _ <| List.mem_append_right _ <| List.mem_append_right _ <| List.mem_of_getElem? (i := 54) rfl) rfl
theorem x_535 : (Jvm.Cond.methodLink "LevelRowsLaw" (114 : Nat) y_M_count) ∈ lw_ok := gd_in (List.mem_append_right _ <| List.mem_append_right _ <| List.mem_append_right _ <| List.mem_of_getElem? (i := 55) rfl) rfl
theorem x_536 : (Jvm.Cond.instanceMethod y_M_count) ∈ lw_ok := gd_in (List.mem_append_right _ <| List.mem_append_right _ <| List.mem_append_right _ <| List.mem_of_getElem? (i := 56) rfl) rfl
theorem x_537 : (Jvm.Cond.selects "LevelRowsModel" y_M_count y_M_count) ∈ lw_ok := gd_in (List.mem_append_right _ <| List.mem_append_right _ <| List.mem_append_right _ <| List.mem_of_getElem? (i := 57) rfl) rfl
theorem x_538 : (Jvm.Cond.code y_M_count prog_5_method_21_code (2 : Nat) (Option.some Jvm.ClassFile.FieldType.int)) ∈ lw_ok := gd_in (List.mem_append_right _ <| List.mem_append_right _ <| List.mem_append_right _ <| List.mem_of_getElem? (i := 58) rfl) rfl
theorem x_539 : (Jvm.Cond.sameMethod "java/lang/Throwable" "java/lang/Throwable" "fillInStackTrace" "(I)Ljava/lang/Throwable;") ∈ lw_ok := gd_in (List.mem_append_right _ <| List.mem_append_right _ <| List.mem_append_right _ <| List.mem_of_getElem? (i := 59) rfl) rfl
theorem s_R_symbolAt : Cond.selects "LevelRows" y_R_symbolAt y_R_symbolAt ∈ lw_ok := gd_in (List.mem_append_left _ <| List.mem_of_getElem? (i := 0) rfl) rfl
theorem s_L_onesTo : Cond.selects "LevelRows$Level" y_L_onesTo y_L_onesTo ∈ lw_ok := gd_in (List.mem_append_left _ <| List.mem_of_getElem? (i := 1) rfl) rfl
theorem s_R_storeLevels : Cond.selects "LevelRows" y_R_storeLevels y_R_storeLevels ∈ lw_ok := gd_in (List.mem_append_left _ <| List.mem_of_getElem? (i := 2) rfl) rfl
theorem s_R_shiftOf : Cond.selects "LevelRows" y_R_shiftOf y_R_shiftOf ∈ lw_ok := gd_in (List.mem_append_left _ <| List.mem_of_getElem? (i := 3) rfl) rfl
theorem s_R_checkSymbol : Cond.selects "LevelRows" y_R_checkSymbol y_R_checkSymbol ∈ lw_ok := gd_in (List.mem_append_left _ <| List.mem_of_getElem? (i := 4) rfl) rfl
theorem s_R_checkPart : Cond.selects "LevelRows" y_R_checkPart y_R_checkPart ∈ lw_ok := gd_in (List.mem_append_left _ <| List.mem_of_getElem? (i := 6) rfl) rfl
theorem s_R_descendTo : Cond.selects "LevelRows" y_R_descendTo y_R_descendTo ∈ lw_ok := gd_in (List.mem_append_left _ <| List.mem_of_getElem? (i := 7) rfl) rfl
theorem s_R_climbFrom : Cond.selects "LevelRows" y_R_climbFrom y_R_climbFrom ∈ lw_ok := gd_in (List.mem_append_left _ <| List.mem_of_getElem? (i := 8) rfl) rfl
theorem s_R_kthLeast : Cond.selects "LevelRows" y_R_kthLeast y_R_kthLeast ∈ lw_ok := gd_in (List.mem_append_left _ <| List.mem_of_getElem? (i := 9) rfl) rfl
theorem s_R_howManyBelow : Cond.selects "LevelRows" y_R_howManyBelow y_R_howManyBelow ∈ lw_ok := gd_in (List.mem_append_left _ <| List.mem_of_getElem? (i := 10) rfl) rfl
theorem s_R_listSymbols : Cond.selects "LevelRows" y_R_listSymbols y_R_listSymbols ∈ lw_ok := gd_in (List.mem_append_left _ <| List.mem_of_getElem? (i := 11) rfl) rfl
theorem s_R_countAhead : Cond.selects "LevelRows" y_R_countAhead y_R_countAhead ∈ lw_ok := gd_in (List.mem_append_left _ <| List.mem_of_getElem? (i := 12) rfl) rfl
theorem s_M_isSymbol : Cond.selects "LevelRowsModel" y_M_isSymbol y_M_isSymbol ∈ lw_ok := gd_in (List.mem_append_left _ <| List.mem_of_getElem? (i := 13) rfl) rfl
theorem s_M_isPart : Cond.selects "LevelRowsModel" y_M_isPart y_M_isPart ∈ lw_ok := gd_in (List.mem_append_left _ <| List.mem_of_getElem? (i := 14) rfl) rfl
theorem s_M_gather : Cond.selects "LevelRowsModel" y_M_gather y_M_gather ∈ lw_ok := gd_in (List.mem_append_left _ <| List.mem_of_getElem? (i := 15) rfl) rfl
theorem s_M_levels : Cond.selects "LevelRowsModel" y_M_levels y_M_levels ∈ lw_ok := gd_in (List.mem_append_left _ <| List.mem_of_getElem? (i := 16) rfl) rfl
set_option maxRecDepth 20000 in
theorem in_L : ∀ w ∈ u_ws n_L f_L 3, w ∈ lw_ok := by decide +kernel
set_option maxRecDepth 20000 in
theorem in_P : ∀ w ∈ u_ws n_P f_P 6, w ∈ lw_ok := by decide +kernel
set_option maxRecDepth 20000 in
theorem in_R : ∀ w ∈ u_ws n_R f_R 10, w ∈ lw_ok := by decide +kernel
set_option maxRecDepth 20000 in
theorem in_M : ∀ w ∈ u_ws n_M f_M 7, w ∈ lw_ok := by decide +kernel
