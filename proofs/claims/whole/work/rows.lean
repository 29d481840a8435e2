section
/-- a private method of a class that the tables say can be made, by its rows of tables_1 -/
def lw_okq (q : MethodName × Nat) : Prop := (q.1.cls ≠ "java/lang/invoke/MethodHandle" ∧ q.1.cls ≠ "java/lang/invoke/VarHandle") ∧ Cond.instantiable q.1.cls q.2 ∈ tables_1 ∧ Cond.privateMethod q.1 ∈ tables_1 ∧ Cond.instanceMethod q.1 ∈ tables_1
theorem lw_p0 : lw_okq (⟨"FacetRows", "isRecord", "(I)Z"⟩, 8) := ⟨⟨by decide +kernel, by decide +kernel⟩, List.mem_of_getElem? (i := 11) (by decide +kernel), List.mem_of_getElem? (i := 58) (by decide +kernel), List.mem_of_getElem? (i := 59) (by decide +kernel)⟩
theorem lw_p1 : lw_okq (⟨"FacetRows", "holds", "(III)Z"⟩, 8) := ⟨⟨by decide +kernel, by decide +kernel⟩, List.mem_of_getElem? (i := 11) (by decide +kernel), List.mem_of_getElem? (i := 68) (by decide +kernel), List.mem_of_getElem? (i := 69) (by decide +kernel)⟩
theorem lw_p2 : lw_okq (⟨"FacetRows", "raise", "(IIJ)V"⟩, 8) := ⟨⟨by decide +kernel, by decide +kernel⟩, List.mem_of_getElem? (i := 11) (by decide +kernel), List.mem_of_getElem? (i := 78) (by decide +kernel), List.mem_of_getElem? (i := 79) (by decide +kernel)⟩
theorem lw_p3 : lw_okq (⟨"FacetRows", "heldOf", "(II)I"⟩, 8) := ⟨⟨by decide +kernel, by decide +kernel⟩, List.mem_of_getElem? (i := 11) (by decide +kernel), List.mem_of_getElem? (i := 82) (by decide +kernel), List.mem_of_getElem? (i := 83) (by decide +kernel)⟩
theorem lw_p4 : lw_okq (⟨"FacetRows", "raiseAll", "(I)V"⟩, 8) := ⟨⟨by decide +kernel, by decide +kernel⟩, List.mem_of_getElem? (i := 11) (by decide +kernel), List.mem_of_getElem? (i := 91) (by decide +kernel), List.mem_of_getElem? (i := 92) (by decide +kernel)⟩
theorem lw_p5 : lw_okq (⟨"FacetRows", "isAtOrBelow", "(III)Z"⟩, 8) := ⟨⟨by decide +kernel, by decide +kernel⟩, List.mem_of_getElem? (i := 11) (by decide +kernel), List.mem_of_getElem? (i := 99) (by decide +kernel), List.mem_of_getElem? (i := 100) (by decide +kernel)⟩
theorem lw_p6 : lw_okq (⟨"FacetRows", "hitsLeft", "()J"⟩, 8) := ⟨⟨by decide +kernel, by decide +kernel⟩, List.mem_of_getElem? (i := 11) (by decide +kernel), List.mem_of_getElem? (i := 117) (by decide +kernel), List.mem_of_getElem? (i := 118) (by decide +kernel)⟩
theorem lw_p7 : lw_okq (⟨"FacetRows", "admitted", "(I)J"⟩, 8) := ⟨⟨by decide +kernel, by decide +kernel⟩, List.mem_of_getElem? (i := 11) (by decide +kernel), List.mem_of_getElem? (i := 121) (by decide +kernel), List.mem_of_getElem? (i := 122) (by decide +kernel)⟩
theorem lw_p8 : lw_okq (⟨"FacetRows", "countValues", "(I)V"⟩, 8) := ⟨⟨by decide +kernel, by decide +kernel⟩, List.mem_of_getElem? (i := 11) (by decide +kernel), List.mem_of_getElem? (i := 133) (by decide +kernel), List.mem_of_getElem? (i := 134) (by decide +kernel)⟩
theorem lw_p9 : lw_okq (⟨"FacetRows", "ranked", "(I)I"⟩, 8) := ⟨⟨by decide +kernel, by decide +kernel⟩, List.mem_of_getElem? (i := 11) (by decide +kernel), List.mem_of_getElem? (i := 137) (by decide +kernel), List.mem_of_getElem? (i := 138) (by decide +kernel)⟩
theorem lw_p10 : lw_okq (⟨"FacetRows", "dropOthersThanBelow", "(II)V"⟩, 8) := ⟨⟨by decide +kernel, by decide +kernel⟩, List.mem_of_getElem? (i := 11) (by decide +kernel), List.mem_of_getElem? (i := 145) (by decide +kernel), List.mem_of_getElem? (i := 146) (by decide +kernel)⟩
theorem lw_p11 : lw_okq (⟨"FacetRows", "holdersBetween", "(III)J"⟩, 8) := ⟨⟨by decide +kernel, by decide +kernel⟩, List.mem_of_getElem? (i := 11) (by decide +kernel), List.mem_of_getElem? (i := 153) (by decide +kernel), List.mem_of_getElem? (i := 154) (by decide +kernel)⟩
theorem lw_p12 : lw_okq (⟨"java/lang/Throwable", "fillInStackTrace", "(I)Ljava/lang/Throwable;"⟩, 6) := ⟨⟨by decide +kernel, by decide +kernel⟩, List.mem_of_getElem? (i := 215) (by decide +kernel), List.mem_of_getElem? (i := 213) (by decide +kernel), List.mem_of_getElem? (i := 214) (by decide +kernel)⟩
theorem lw_p13 : lw_okq (⟨"FacetRowsModel", "isRecord", "(I)Z"⟩, 13) := ⟨⟨by decide +kernel, by decide +kernel⟩, List.mem_of_getElem? (i := 248) (by decide +kernel), List.mem_of_getElem? (i := 306) (by decide +kernel), List.mem_of_getElem? (i := 307) (by decide +kernel)⟩
theorem lw_p14 : lw_okq (⟨"FacetRowsModel", "find", "(III)I"⟩, 13) := ⟨⟨by decide +kernel, by decide +kernel⟩, List.mem_of_getElem? (i := 248) (by decide +kernel), List.mem_of_getElem? (i := 316) (by decide +kernel), List.mem_of_getElem? (i := 317) (by decide +kernel)⟩
theorem lw_p15 : lw_okq (⟨"FacetRowsModel", "lies", "(III)Z"⟩, 13) := ⟨⟨by decide +kernel, by decide +kernel⟩, List.mem_of_getElem? (i := 248) (by decide +kernel), List.mem_of_getElem? (i := 328) (by decide +kernel), List.mem_of_getElem? (i := 329) (by decide +kernel)⟩
def lw_privs_1 : List (MethodName × Nat) := [(⟨"FacetRows", "isRecord", "(I)Z"⟩, 8), (⟨"FacetRows", "holds", "(III)Z"⟩, 8), (⟨"FacetRows", "raise", "(IIJ)V"⟩, 8), (⟨"FacetRows", "heldOf", "(II)I"⟩, 8), (⟨"FacetRows", "raiseAll", "(I)V"⟩, 8), (⟨"FacetRows", "isAtOrBelow", "(III)Z"⟩, 8), (⟨"FacetRows", "hitsLeft", "()J"⟩, 8), (⟨"FacetRows", "admitted", "(I)J"⟩, 8), (⟨"FacetRows", "countValues", "(I)V"⟩, 8), (⟨"FacetRows", "ranked", "(I)I"⟩, 8), (⟨"FacetRows", "dropOthersThanBelow", "(II)V"⟩, 8), (⟨"FacetRows", "holdersBetween", "(III)J"⟩, 8), (⟨"java/lang/Throwable", "fillInStackTrace", "(I)Ljava/lang/Throwable;"⟩, 6), (⟨"FacetRowsModel", "isRecord", "(I)Z"⟩, 13), (⟨"FacetRowsModel", "find", "(III)I"⟩, 13), (⟨"FacetRowsModel", "lies", "(III)Z"⟩, 13)]
theorem lw_r1 : ∀ q ∈ lw_privs_1, lw_okq q := List.forall_mem_cons.mpr ⟨lw_p0, List.forall_mem_cons.mpr ⟨lw_p1, List.forall_mem_cons.mpr ⟨lw_p2, List.forall_mem_cons.mpr ⟨lw_p3, List.forall_mem_cons.mpr ⟨lw_p4, List.forall_mem_cons.mpr ⟨lw_p5, List.forall_mem_cons.mpr ⟨lw_p6, List.forall_mem_cons.mpr ⟨lw_p7, List.forall_mem_cons.mpr ⟨lw_p8, List.forall_mem_cons.mpr ⟨lw_p9, List.forall_mem_cons.mpr ⟨lw_p10, List.forall_mem_cons.mpr ⟨lw_p11, List.forall_mem_cons.mpr ⟨lw_p12, List.forall_mem_cons.mpr ⟨lw_p13, List.forall_mem_cons.mpr ⟨lw_p14, List.forall_mem_cons.mpr ⟨lw_p15, fun _ h => absurd h List.not_mem_nil⟩⟩⟩⟩⟩⟩⟩⟩⟩⟩⟩⟩⟩⟩⟩⟩
theorem lw_p16 : lw_okq (⟨"FacetRowsModel", "sort", "()V"⟩, 13) := ⟨⟨by decide +kernel, by decide +kernel⟩, List.mem_of_getElem? (i := 248) (by decide +kernel), List.mem_of_getElem? (i := 340) (by decide +kernel), List.mem_of_getElem? (i := 341) (by decide +kernel)⟩
theorem lw_p17 : lw_okq (⟨"FacetRowsModel", "reckon", "(I)V"⟩, 13) := ⟨⟨by decide +kernel, by decide +kernel⟩, List.mem_of_getElem? (i := 248) (by decide +kernel), List.mem_of_getElem? (i := 348) (by decide +kernel), List.mem_of_getElem? (i := 349) (by decide +kernel)⟩
theorem lw_p18 : lw_okq (⟨"FacetRowsModel", "ranked", "(III)I"⟩, 13) := ⟨⟨by decide +kernel, by decide +kernel⟩, List.mem_of_getElem? (i := 248) (by decide +kernel), List.mem_of_getElem? (i := 356) (by decide +kernel), List.mem_of_getElem? (i := 357) (by decide +kernel)⟩
def lw_privs_2 : List (MethodName × Nat) := [(⟨"FacetRowsModel", "sort", "()V"⟩, 13), (⟨"FacetRowsModel", "reckon", "(I)V"⟩, 13), (⟨"FacetRowsModel", "ranked", "(III)I"⟩, 13)]
theorem lw_r2 : ∀ q ∈ lw_privs_2, lw_okq q := List.forall_mem_cons.mpr ⟨lw_p16, List.forall_mem_cons.mpr ⟨lw_p17, List.forall_mem_cons.mpr ⟨lw_p18, fun _ h => absurd h List.not_mem_nil⟩⟩⟩
def lw_privs : List (MethodName × Nat) := lw_privs_1 ++ (lw_privs_2)
def lw_tbl : List Cond := k2_sels lw_privs ++ tables_1
theorem lw_privs_ok : ∀ q ∈ lw_privs, lw_okq q := by
  show ∀ q ∈ lw_privs_1 ++ (lw_privs_2), lw_okq q
  exact List.forall_mem_append.mpr ⟨lw_r1, lw_r2⟩

def tb_l : List Cond := lw_tbl.filter goodWord
theorem in_tb {w : Cond} (i : Nat) (h : lw_tbl[i]? = some w) (g : goodWord w = true) : w ∈ tb_l := List.mem_filter.mpr ⟨List.mem_of_getElem? h, g⟩
theorem tb_ok {w : Cond} (h : w ∈ tb_l) : w ∈ lw_tbl := (List.mem_filter.mp h).1
theorem tb_gd {w : Cond} (h : w ∈ tb_l) : (w.onTables && w.keeps) = true ∨ ∃ ty, w = .arrayClass ty := good_of_word (List.mem_filter.mp h).2
theorem gd_all {c0 c1 : Cond} (h : c1 ∈ tb_l) : GoodIn (c0 :: tb_l) (c1 :: tb_l) := by
  intro w hw
  rcases List.mem_cons.mp hw with e | e
  · subst e
    exact ⟨List.mem_cons_of_mem _ h, tb_gd h⟩
  · exact ⟨List.mem_cons_of_mem _ e, tb_gd e⟩
theorem gd_V {c0 c1 : Cond} {own C : String} {i : Nat} {y : MethodName} (h : c1 ∈ tb_l) (h1 : Cond.methodLink own i y ∈ tb_l) (h2 : Cond.instanceMethod y ∈ tb_l) (h3 : Cond.selects C y y ∈ tb_l) (h4 : Cond.initialized C ∈ tb_l) : GoodIn (c0 :: tb_l) (wsV own i C y (c1 :: tb_l)) := by
  intro w hw
  rcases List.mem_append.mp hw with e | e
  · simp only [List.mem_cons, List.not_mem_nil, or_false] at e
    rcases e with e | e | e | e <;> subst e <;> exact ⟨List.mem_cons_of_mem _ (by assumption), tb_gd (by assumption)⟩
  · exact gd_all h w e
theorem gd_S {c0 c1 : Cond} {own : String} {i : Nat} {y : MethodName} (h : c1 ∈ tb_l) (h1 : Cond.methodLink own i y ∈ tb_l) (h2 : Cond.static y ∈ tb_l) (h3 : Cond.initialized y.cls ∈ tb_l) : GoodIn (c0 :: tb_l) (va_wsS own i y (c1 :: tb_l)) := by
  intro w hw
  rcases List.mem_append.mp hw with e | e
  · simp only [List.mem_cons, List.not_mem_nil, or_false] at e
    rcases e with e | e | e <;> subst e <;> exact ⟨List.mem_cons_of_mem _ (by assumption), tb_gd (by assumption)⟩
  · exact gd_all h w e
def R_X : String := "FacetRows"
def R_M : String := "FacetRowsModel"
def R_L : String := "FacetRowsLaw"
def R_JL : String := "java/lang/Long"
def R_JM : String := "java/lang/Math"
def R_JA : String := "java/util/Arrays"
def T_X : u_T := fun k => match k with
  | 0 => ("FacetRows", "holders", "[J", true)
  | 1 => ("FacetRows", "havers", "[J", true)
  | 2 => ("FacetRows", "broaderOf", "[I", true)
  | 3 => ("FacetRows", "chosen", "[Z", true)
  | 4 => ("FacetRows", "counts", "[I", true)
  | 5 => ("FacetRows", "records", "I", false)
  | 6 => ("FacetRows", "held", "I", false)
  | _ => ("FacetRows", "hits", "J", false)
def t_X : Nat → FieldType := fun k => match k with
  | 0 => .array .long
  | 1 => .array .long
  | 2 => .array .int
  | 3 => .array .boolean
  | 4 => .array .int
  | 5 => .int
  | 6 => .int
  | _ => .long
theorem n_X : ∀ a, a < 8 → ∀ b, b < 8 → a ≠ b → (T_X a).2.1 ≠ (T_X b).2.1 := by decide +kernel
theorem t_X_ok : ∀ k, k < 8 → parseFieldDescriptor (T_X k).2.2.1 = some (t_X k) := by decide +kernel
theorem u_X_in0 : ∀ w ∈ u_ws R_X T_X 8, w ∈ lw_tbl := by decide +kernel
theorem u_X_in : ∀ w ∈ u_ws R_X T_X 8, w ∈ tb_l := fun w h => List.mem_filter.mpr ⟨u_X_in0 w h, List.all_eq_true.mp (show (u_ws R_X T_X 8).all goodWord = true by decide +kernel) w h⟩
def T_M : u_T := fun k => match k with
  | 0 => ("FacetRowsModel", "thrown", "I", false)
  | 1 => ("FacetRowsModel", "records", "I", false)
  | 2 => ("FacetRowsModel", "values", "I", false)
  | 3 => ("FacetRowsModel", "rows", "[I", true)
  | 4 => ("FacetRowsModel", "broader", "[I", true)
  | 5 => ("FacetRowsModel", "hits", "[Z", true)
  | 6 => ("FacetRowsModel", "chosen", "[Z", true)
  | 7 => ("FacetRowsModel", "counts", "[I", true)
  | 8 => ("FacetRowsModel", "marks", "[I", true)
  | 9 => ("FacetRowsModel", "any", "[Z", true)
  | 10 => ("FacetRowsModel", "one", "[Z", true)
  | 11 => ("FacetRowsModel", "left", "[Z", true)
  | _ => ("FacetRowsModel", "many", "I", false)
def t_M : Nat → FieldType := fun k => match k with
  | 0 => .int
  | 1 => .int
  | 2 => .int
  | 3 => .array .int
  | 4 => .array .int
  | 5 => .array .boolean
  | 6 => .array .boolean
  | 7 => .array .int
  | 8 => .array .int
  | 9 => .array .boolean
  | 10 => .array .boolean
  | 11 => .array .boolean
  | _ => .int
theorem n_M : ∀ a, a < 13 → ∀ b, b < 13 → a ≠ b → (T_M a).2.1 ≠ (T_M b).2.1 := by decide +kernel
theorem t_M_ok : ∀ k, k < 13 → parseFieldDescriptor (T_M k).2.2.1 = some (t_M k) := by decide +kernel
theorem u_M_in0 : ∀ w ∈ u_ws R_M T_M 13, w ∈ lw_tbl := by decide +kernel
theorem u_M_in : ∀ w ∈ u_ws R_M T_M 13, w ∈ tb_l := fun w h => List.mem_filter.mpr ⟨u_M_in0 w h, List.all_eq_true.mp (show (u_ws R_M T_M 13).all goodWord = true by decide +kernel) w h⟩
abbrev cl_s : List vw_C := [(R_X, T_X, 8), (R_M, T_M, 13)]
theorem fl_X_holders : Cond.fieldLink R_X 9 "FacetRows" "holders" "[J" ∈ tb_l := in_tb 40 (by decide +kernel) (by decide +kernel)
theorem fl_X_havers : Cond.fieldLink R_X 13 "FacetRows" "havers" "[J" ∈ tb_l := in_tb 41 (by decide +kernel) (by decide +kernel)
theorem fl_X_broaderOf : Cond.fieldLink R_X 16 "FacetRows" "broaderOf" "[I" ∈ tb_l := in_tb 42 (by decide +kernel) (by decide +kernel)
theorem fl_X_chosen : Cond.fieldLink R_X 26 "FacetRows" "chosen" "[Z" ∈ tb_l := in_tb 43 (by decide +kernel) (by decide +kernel)
theorem fl_X_counts : Cond.fieldLink R_X 30 "FacetRows" "counts" "[I" ∈ tb_l := in_tb 44 (by decide +kernel) (by decide +kernel)
theorem fl_X_records : Cond.fieldLink R_X 33 "FacetRows" "records" "I" ∈ tb_l := in_tb 45 (by decide +kernel) (by decide +kernel)
theorem fl_X_held : Cond.fieldLink R_X 37 "FacetRows" "held" "I" ∈ tb_l := in_tb 46 (by decide +kernel) (by decide +kernel)
theorem fl_X_hits : Cond.fieldLink R_X 40 "FacetRows" "hits" "J" ∈ tb_l := in_tb 47 (by decide +kernel) (by decide +kernel)
theorem fl_M_rows : Cond.fieldLink R_M 7 "FacetRowsModel" "rows" "[I" ∈ tb_l := in_tb 275 (by decide +kernel) (by decide +kernel)
theorem fl_M_broader : Cond.fieldLink R_M 13 "FacetRowsModel" "broader" "[I" ∈ tb_l := in_tb 276 (by decide +kernel) (by decide +kernel)
theorem fl_M_hits : Cond.fieldLink R_M 16 "FacetRowsModel" "hits" "[Z" ∈ tb_l := in_tb 277 (by decide +kernel) (by decide +kernel)
theorem fl_M_chosen : Cond.fieldLink R_M 20 "FacetRowsModel" "chosen" "[Z" ∈ tb_l := in_tb 278 (by decide +kernel) (by decide +kernel)
theorem fl_M_counts : Cond.fieldLink R_M 23 "FacetRowsModel" "counts" "[I" ∈ tb_l := in_tb 279 (by decide +kernel) (by decide +kernel)
theorem fl_M_marks : Cond.fieldLink R_M 26 "FacetRowsModel" "marks" "[I" ∈ tb_l := in_tb 280 (by decide +kernel) (by decide +kernel)
theorem fl_M_any : Cond.fieldLink R_M 29 "FacetRowsModel" "any" "[Z" ∈ tb_l := in_tb 281 (by decide +kernel) (by decide +kernel)
theorem fl_M_one : Cond.fieldLink R_M 32 "FacetRowsModel" "one" "[Z" ∈ tb_l := in_tb 282 (by decide +kernel) (by decide +kernel)
theorem fl_M_left : Cond.fieldLink R_M 35 "FacetRowsModel" "left" "[Z" ∈ tb_l := in_tb 283 (by decide +kernel) (by decide +kernel)
theorem fl_M_thrown : Cond.fieldLink R_M 38 "FacetRowsModel" "thrown" "I" ∈ tb_l := in_tb 272 (by decide +kernel) (by decide +kernel)
theorem fl_M_records : Cond.fieldLink R_M 42 "FacetRowsModel" "records" "I" ∈ tb_l := in_tb 273 (by decide +kernel) (by decide +kernel)
theorem fl_M_values : Cond.fieldLink R_M 49 "FacetRowsModel" "values" "I" ∈ tb_l := in_tb 274 (by decide +kernel) (by decide +kernel)
theorem fl_M_many : Cond.fieldLink R_M 67 "FacetRowsModel" "many" "I" ∈ tb_l := in_tb 284 (by decide +kernel) (by decide +kernel)
theorem cl_X_73 : Cond.constantLong R_X 73 (-1) ∈ tb_l := in_tb 108 (by decide +kernel) (by decide +kernel)
theorem cl_M_80 : Cond.constantLong R_M 80 (-1) ∈ tb_l := in_tb 390 (by decide +kernel) (by decide +kernel)
theorem cl_JL_314 : Cond.constantLong R_JL 314 (6148914691236517205) ∈ tb_l := in_tb 128 (by decide +kernel) (by decide +kernel)
theorem cl_JL_316 : Cond.constantLong R_JL 316 (3689348814741910323) ∈ tb_l := in_tb 129 (by decide +kernel) (by decide +kernel)
theorem cl_JL_318 : Cond.constantLong R_JL 318 (1085102592571150095) ∈ tb_l := in_tb 130 (by decide +kernel) (by decide +kernel)
theorem ii_X : Cond.initialized R_X ∈ tb_l := in_tb 20 (by decide +kernel) (by decide +kernel)
theorem ii_M : Cond.initialized R_M ∈ tb_l := in_tb 22 (by decide +kernel) (by decide +kernel)
theorem ii_L : Cond.initialized R_L ∈ tb_l := in_tb 19 (by decide +kernel) (by decide +kernel)
theorem ii_JL : Cond.initialized R_JL ∈ tb_l := in_tb 23 (by decide +kernel) (by decide +kernel)
theorem ii_JM : Cond.initialized R_JM ∈ tb_l := in_tb 24 (by decide +kernel) (by decide +kernel)
theorem ii_JA : Cond.initialized R_JA ∈ tb_l := in_tb 21 (by decide +kernel) (by decide +kernel)
abbrev b_X_init : ByteArray := prog_1_method_1_code
def y_X_init : MethodName := ⟨R_X, "<init>", "()V"⟩
abbrev k_X_init : Cond := .code y_X_init b_X_init 1 none
theorem ci_X_init : k_X_init ∈ tb_l := in_tb 33 (by decide +kernel) (by decide +kernel)
theorem im_X_init : Cond.instanceMethod y_X_init ∈ tb_l := in_tb 32 (by decide +kernel) (by decide +kernel)
abbrev b_JA_fill : ByteArray := prog_11_method_103_code
def y_JA_fill : MethodName := ⟨R_JA, "fill", "([II)V"⟩
abbrev k_JA_fill : Cond := .code y_JA_fill b_JA_fill 4 none
theorem ci_JA_fill : k_JA_fill ∈ tb_l := in_tb 39 (by decide +kernel) (by decide +kernel)
theorem st_JA_fill : Cond.static y_JA_fill ∈ tb_l := in_tb 38 (by decide +kernel) (by decide +kernel)
abbrev b_X_record : ByteArray := prog_1_method_2_code
def y_X_record : MethodName := ⟨R_X, "record", "()I"⟩
abbrev k_X_record : Cond := .code y_X_record b_X_record 1 (some .int)
theorem ci_X_record : k_X_record ∈ tb_l := in_tb 71 (by decide +kernel) (by decide +kernel)
theorem im_X_record : Cond.instanceMethod y_X_record ∈ tb_l := in_tb 69 (by decide +kernel) (by decide +kernel)
theorem se_X_record : Cond.selects R_X y_X_record y_X_record ∈ tb_l := in_tb 70 (by decide +kernel) (by decide +kernel)
abbrev b_X_value : ByteArray := prog_1_method_3_code
def y_X_value : MethodName := ⟨R_X, "value", "(III)I"⟩
abbrev k_X_value : Cond := .code y_X_value b_X_value 4 (some .int)
theorem ci_X_value : k_X_value ∈ tb_l := in_tb 75 (by decide +kernel) (by decide +kernel)
theorem im_X_value : Cond.instanceMethod y_X_value ∈ tb_l := in_tb 73 (by decide +kernel) (by decide +kernel)
theorem se_X_value : Cond.selects R_X y_X_value y_X_value ∈ tb_l := in_tb 74 (by decide +kernel) (by decide +kernel)
abbrev b_X_isRecord : ByteArray := prog_1_method_15_code
def y_X_isRecord : MethodName := ⟨R_X, "isRecord", "(I)Z"⟩
abbrev k_X_isRecord : Cond := .code y_X_isRecord b_X_isRecord 2 (some .boolean)
theorem ci_X_isRecord : k_X_isRecord ∈ tb_l := in_tb 79 (by decide +kernel) (by decide +kernel)
theorem im_X_isRecord : Cond.instanceMethod y_X_isRecord ∈ tb_l := in_tb 78 (by decide +kernel) (by decide +kernel)
theorem se_X_isRecord : Cond.selects R_X y_X_isRecord y_X_isRecord ∈ tb_l := in_tb 0 (by decide +kernel) (by decide +kernel)
abbrev b_X_isFacet : ByteArray := prog_1_method_16_code
def y_X_isFacet : MethodName := ⟨R_X, "isFacet", "(I)Z"⟩
abbrev k_X_isFacet : Cond := .code y_X_isFacet b_X_isFacet 1 (some .boolean)
theorem ci_X_isFacet : k_X_isFacet ∈ tb_l := in_tb 82 (by decide +kernel) (by decide +kernel)
theorem st_X_isFacet : Cond.static y_X_isFacet ∈ tb_l := in_tb 81 (by decide +kernel) (by decide +kernel)
abbrev b_X_isValue : ByteArray := prog_1_method_17_code
def y_X_isValue : MethodName := ⟨R_X, "isValue", "(I)Z"⟩
abbrev k_X_isValue : Cond := .code y_X_isValue b_X_isValue 1 (some .boolean)
theorem ci_X_isValue : k_X_isValue ∈ tb_l := in_tb 85 (by decide +kernel) (by decide +kernel)
theorem st_X_isValue : Cond.static y_X_isValue ∈ tb_l := in_tb 84 (by decide +kernel) (by decide +kernel)
abbrev b_X_holds : ByteArray := prog_1_method_20_code
def y_X_holds : MethodName := ⟨R_X, "holds", "(III)Z"⟩
abbrev k_X_holds : Cond := .code y_X_holds b_X_holds 4 (some .boolean)
theorem ci_X_holds : k_X_holds ∈ tb_l := in_tb 89 (by decide +kernel) (by decide +kernel)
theorem im_X_holds : Cond.instanceMethod y_X_holds ∈ tb_l := in_tb 88 (by decide +kernel) (by decide +kernel)
theorem se_X_holds : Cond.selects R_X y_X_holds y_X_holds ∈ tb_l := in_tb 1 (by decide +kernel) (by decide +kernel)
abbrev b_X_cell : ByteArray := prog_1_method_18_code
def y_X_cell : MethodName := ⟨R_X, "cell", "(II)I"⟩
abbrev k_X_cell : Cond := .code y_X_cell b_X_cell 2 (some .int)
theorem ci_X_cell : k_X_cell ∈ tb_l := in_tb 92 (by decide +kernel) (by decide +kernel)
theorem st_X_cell : Cond.static y_X_cell ∈ tb_l := in_tb 91 (by decide +kernel) (by decide +kernel)
abbrev b_X_bit : ByteArray := prog_1_method_19_code
def y_X_bit : MethodName := ⟨R_X, "bit", "(I)J"⟩
abbrev k_X_bit : Cond := .code y_X_bit b_X_bit 1 (some .long)
theorem ci_X_bit : k_X_bit ∈ tb_l := in_tb 95 (by decide +kernel) (by decide +kernel)
theorem st_X_bit : Cond.static y_X_bit ∈ tb_l := in_tb 94 (by decide +kernel) (by decide +kernel)
abbrev b_X_raise : ByteArray := prog_1_method_24_code
def y_X_raise : MethodName := ⟨R_X, "raise", "(IIJ)V"⟩
abbrev k_X_raise : Cond := .code y_X_raise b_X_raise 7 none
theorem ci_X_raise : k_X_raise ∈ tb_l := in_tb 99 (by decide +kernel) (by decide +kernel)
theorem im_X_raise : Cond.instanceMethod y_X_raise ∈ tb_l := in_tb 98 (by decide +kernel) (by decide +kernel)
theorem se_X_raise : Cond.selects R_X y_X_raise y_X_raise ∈ tb_l := in_tb 2 (by decide +kernel) (by decide +kernel)
abbrev b_X_heldOf : ByteArray := prog_1_method_21_code
def y_X_heldOf : MethodName := ⟨R_X, "heldOf", "(II)I"⟩
abbrev k_X_heldOf : Cond := .code y_X_heldOf b_X_heldOf 5 (some .int)
theorem ci_X_heldOf : k_X_heldOf ∈ tb_l := in_tb 103 (by decide +kernel) (by decide +kernel)
theorem im_X_heldOf : Cond.instanceMethod y_X_heldOf ∈ tb_l := in_tb 102 (by decide +kernel) (by decide +kernel)
theorem se_X_heldOf : Cond.selects R_X y_X_heldOf y_X_heldOf ∈ tb_l := in_tb 3 (by decide +kernel) (by decide +kernel)
abbrev b_X_gone : ByteArray := prog_1_method_4_code
def y_X_gone : MethodName := ⟨R_X, "gone", "(III)Z"⟩
abbrev k_X_gone : Cond := .code y_X_gone b_X_gone 4 (some .boolean)
theorem ci_X_gone : k_X_gone ∈ tb_l := in_tb 107 (by decide +kernel) (by decide +kernel)
theorem im_X_gone : Cond.instanceMethod y_X_gone ∈ tb_l := in_tb 105 (by decide +kernel) (by decide +kernel)
theorem se_X_gone : Cond.selects R_X y_X_gone y_X_gone ∈ tb_l := in_tb 106 (by decide +kernel) (by decide +kernel)
abbrev b_X_raiseAll : ByteArray := prog_1_method_25_code
def y_X_raiseAll : MethodName := ⟨R_X, "raiseAll", "(I)V"⟩
abbrev k_X_raiseAll : Cond := .code y_X_raiseAll b_X_raiseAll 5 none
theorem ci_X_raiseAll : k_X_raiseAll ∈ tb_l := in_tb 112 (by decide +kernel) (by decide +kernel)
theorem im_X_raiseAll : Cond.instanceMethod y_X_raiseAll ∈ tb_l := in_tb 111 (by decide +kernel) (by decide +kernel)
theorem se_X_raiseAll : Cond.selects R_X y_X_raiseAll y_X_raiseAll ∈ tb_l := in_tb 4 (by decide +kernel) (by decide +kernel)
abbrev b_X_narrower : ByteArray := prog_1_method_5_code
def y_X_narrower : MethodName := ⟨R_X, "narrower", "(III)I"⟩
abbrev k_X_narrower : Cond := .code y_X_narrower b_X_narrower 4 (some .int)
theorem ci_X_narrower : k_X_narrower ∈ tb_l := in_tb 116 (by decide +kernel) (by decide +kernel)
theorem im_X_narrower : Cond.instanceMethod y_X_narrower ∈ tb_l := in_tb 114 (by decide +kernel) (by decide +kernel)
theorem se_X_narrower : Cond.selects R_X y_X_narrower y_X_narrower ∈ tb_l := in_tb 115 (by decide +kernel) (by decide +kernel)
abbrev b_X_isAtOrBelow : ByteArray := prog_1_method_23_code
def y_X_isAtOrBelow : MethodName := ⟨R_X, "isAtOrBelow", "(III)Z"⟩
abbrev k_X_isAtOrBelow : Cond := .code y_X_isAtOrBelow b_X_isAtOrBelow 6 (some .boolean)
theorem ci_X_isAtOrBelow : k_X_isAtOrBelow ∈ tb_l := in_tb 120 (by decide +kernel) (by decide +kernel)
theorem im_X_isAtOrBelow : Cond.instanceMethod y_X_isAtOrBelow ∈ tb_l := in_tb 119 (by decide +kernel) (by decide +kernel)
theorem se_X_isAtOrBelow : Cond.selects R_X y_X_isAtOrBelow y_X_isAtOrBelow ∈ tb_l := in_tb 5 (by decide +kernel) (by decide +kernel)
abbrev b_X_hit : ByteArray := prog_1_method_6_code
def y_X_hit : MethodName := ⟨R_X, "hit", "(IZ)I"⟩
abbrev k_X_hit : Cond := .code y_X_hit b_X_hit 3 (some .int)
theorem ci_X_hit : k_X_hit ∈ tb_l := in_tb 124 (by decide +kernel) (by decide +kernel)
theorem im_X_hit : Cond.instanceMethod y_X_hit ∈ tb_l := in_tb 122 (by decide +kernel) (by decide +kernel)
theorem se_X_hit : Cond.selects R_X y_X_hit y_X_hit ∈ tb_l := in_tb 123 (by decide +kernel) (by decide +kernel)
abbrev b_JL_bitCount : ByteArray := prog_6_method_50_code
def y_JL_bitCount : MethodName := ⟨R_JL, "bitCount", "(J)I"⟩
abbrev k_JL_bitCount : Cond := .code y_JL_bitCount b_JL_bitCount 2 (some .int)
theorem ci_JL_bitCount : k_JL_bitCount ∈ tb_l := in_tb 127 (by decide +kernel) (by decide +kernel)
theorem st_JL_bitCount : Cond.static y_JL_bitCount ∈ tb_l := in_tb 126 (by decide +kernel) (by decide +kernel)
abbrev b_X_choose : ByteArray := prog_1_method_7_code
def y_X_choose : MethodName := ⟨R_X, "choose", "(II)I"⟩
abbrev k_X_choose : Cond := .code y_X_choose b_X_choose 3 (some .int)
theorem ci_X_choose : k_X_choose ∈ tb_l := in_tb 134 (by decide +kernel) (by decide +kernel)
theorem im_X_choose : Cond.instanceMethod y_X_choose ∈ tb_l := in_tb 132 (by decide +kernel) (by decide +kernel)
theorem se_X_choose : Cond.selects R_X y_X_choose y_X_choose ∈ tb_l := in_tb 133 (by decide +kernel) (by decide +kernel)
abbrev b_X_hitsLeft : ByteArray := prog_1_method_26_code
def y_X_hitsLeft : MethodName := ⟨R_X, "hitsLeft", "()J"⟩
abbrev k_X_hitsLeft : Cond := .code y_X_hitsLeft b_X_hitsLeft 4 (some .long)
theorem ci_X_hitsLeft : k_X_hitsLeft ∈ tb_l := in_tb 138 (by decide +kernel) (by decide +kernel)
theorem im_X_hitsLeft : Cond.instanceMethod y_X_hitsLeft ∈ tb_l := in_tb 137 (by decide +kernel) (by decide +kernel)
theorem se_X_hitsLeft : Cond.selects R_X y_X_hitsLeft y_X_hitsLeft ∈ tb_l := in_tb 6 (by decide +kernel) (by decide +kernel)
abbrev b_X_admitted : ByteArray := prog_1_method_27_code
def y_X_admitted : MethodName := ⟨R_X, "admitted", "(I)J"⟩
abbrev k_X_admitted : Cond := .code y_X_admitted b_X_admitted 6 (some .long)
theorem ci_X_admitted : k_X_admitted ∈ tb_l := in_tb 142 (by decide +kernel) (by decide +kernel)
theorem im_X_admitted : Cond.instanceMethod y_X_admitted ∈ tb_l := in_tb 141 (by decide +kernel) (by decide +kernel)
theorem se_X_admitted : Cond.selects R_X y_X_admitted y_X_admitted ∈ tb_l := in_tb 7 (by decide +kernel) (by decide +kernel)
abbrev b_X_count : ByteArray := prog_1_method_8_code
def y_X_count : MethodName := ⟨R_X, "count", "(II)I"⟩
abbrev k_X_count : Cond := .code y_X_count b_X_count 3 (some .int)
theorem ci_X_count : k_X_count ∈ tb_l := in_tb 146 (by decide +kernel) (by decide +kernel)
theorem im_X_count : Cond.instanceMethod y_X_count ∈ tb_l := in_tb 144 (by decide +kernel) (by decide +kernel)
theorem se_X_count : Cond.selects R_X y_X_count y_X_count ∈ tb_l := in_tb 145 (by decide +kernel) (by decide +kernel)
abbrev b_X_top : ByteArray := prog_1_method_9_code
def y_X_top : MethodName := ⟨R_X, "top", "(II)I"⟩
abbrev k_X_top : Cond := .code y_X_top b_X_top 3 (some .int)
theorem ci_X_top : k_X_top ∈ tb_l := in_tb 150 (by decide +kernel) (by decide +kernel)
theorem im_X_top : Cond.instanceMethod y_X_top ∈ tb_l := in_tb 148 (by decide +kernel) (by decide +kernel)
theorem se_X_top : Cond.selects R_X y_X_top y_X_top ∈ tb_l := in_tb 149 (by decide +kernel) (by decide +kernel)
abbrev b_X_countValues : ByteArray := prog_1_method_28_code
def y_X_countValues : MethodName := ⟨R_X, "countValues", "(I)V"⟩
abbrev k_X_countValues : Cond := .code y_X_countValues b_X_countValues 5 none
theorem ci_X_countValues : k_X_countValues ∈ tb_l := in_tb 154 (by decide +kernel) (by decide +kernel)
theorem im_X_countValues : Cond.instanceMethod y_X_countValues ∈ tb_l := in_tb 153 (by decide +kernel) (by decide +kernel)
theorem se_X_countValues : Cond.selects R_X y_X_countValues y_X_countValues ∈ tb_l := in_tb 8 (by decide +kernel) (by decide +kernel)
abbrev b_X_ranked : ByteArray := prog_1_method_30_code
def y_X_ranked : MethodName := ⟨R_X, "ranked", "(I)I"⟩
abbrev k_X_ranked : Cond := .code y_X_ranked b_X_ranked 5 (some .int)
theorem ci_X_ranked : k_X_ranked ∈ tb_l := in_tb 158 (by decide +kernel) (by decide +kernel)
theorem im_X_ranked : Cond.instanceMethod y_X_ranked ∈ tb_l := in_tb 157 (by decide +kernel) (by decide +kernel)
theorem se_X_ranked : Cond.selects R_X y_X_ranked y_X_ranked ∈ tb_l := in_tb 9 (by decide +kernel) (by decide +kernel)
abbrev b_X_below : ByteArray := prog_1_method_10_code
def y_X_below : MethodName := ⟨R_X, "below", "(IZII)I"⟩
abbrev k_X_below : Cond := .code y_X_below b_X_below 5 (some .int)
theorem ci_X_below : k_X_below ∈ tb_l := in_tb 162 (by decide +kernel) (by decide +kernel)
theorem im_X_below : Cond.instanceMethod y_X_below ∈ tb_l := in_tb 160 (by decide +kernel) (by decide +kernel)
theorem se_X_below : Cond.selects R_X y_X_below y_X_below ∈ tb_l := in_tb 161 (by decide +kernel) (by decide +kernel)
abbrev b_X_dropOthersThanBelow : ByteArray := prog_1_method_29_code
def y_X_dropOthersThanBelow : MethodName := ⟨R_X, "dropOthersThanBelow", "(II)V"⟩
abbrev k_X_dropOthersThanBelow : Cond := .code y_X_dropOthersThanBelow b_X_dropOthersThanBelow 4 none
theorem ci_X_dropOthersThanBelow : k_X_dropOthersThanBelow ∈ tb_l := in_tb 166 (by decide +kernel) (by decide +kernel)
theorem im_X_dropOthersThanBelow : Cond.instanceMethod y_X_dropOthersThanBelow ∈ tb_l := in_tb 165 (by decide +kernel) (by decide +kernel)
theorem se_X_dropOthersThanBelow : Cond.selects R_X y_X_dropOthersThanBelow y_X_dropOthersThanBelow ∈ tb_l := in_tb 10 (by decide +kernel) (by decide +kernel)
abbrev b_X_band : ByteArray := prog_1_method_11_code
def y_X_band : MethodName := ⟨R_X, "band", "(III)I"⟩
abbrev k_X_band : Cond := .code y_X_band b_X_band 4 (some .int)
theorem ci_X_band : k_X_band ∈ tb_l := in_tb 170 (by decide +kernel) (by decide +kernel)
theorem im_X_band : Cond.instanceMethod y_X_band ∈ tb_l := in_tb 168 (by decide +kernel) (by decide +kernel)
theorem se_X_band : Cond.selects R_X y_X_band y_X_band ∈ tb_l := in_tb 169 (by decide +kernel) (by decide +kernel)
abbrev b_X_holdersBetween : ByteArray := prog_1_method_22_code
def y_X_holdersBetween : MethodName := ⟨R_X, "holdersBetween", "(III)J"⟩
abbrev k_X_holdersBetween : Cond := .code y_X_holdersBetween b_X_holdersBetween 8 (some .long)
theorem ci_X_holdersBetween : k_X_holdersBetween ∈ tb_l := in_tb 174 (by decide +kernel) (by decide +kernel)
theorem im_X_holdersBetween : Cond.instanceMethod y_X_holdersBetween ∈ tb_l := in_tb 173 (by decide +kernel) (by decide +kernel)
theorem se_X_holdersBetween : Cond.selects R_X y_X_holdersBetween y_X_holdersBetween ∈ tb_l := in_tb 11 (by decide +kernel) (by decide +kernel)
abbrev b_JM_min : ByteArray := prog_7_method_69_code
def y_JM_min : MethodName := ⟨R_JM, "min", "(II)I"⟩
abbrev k_JM_min : Cond := .code y_JM_min b_JM_min 2 (some .int)
theorem ci_JM_min : k_JM_min ∈ tb_l := in_tb 177 (by decide +kernel) (by decide +kernel)
theorem st_JM_min : Cond.static y_JM_min ∈ tb_l := in_tb 176 (by decide +kernel) (by decide +kernel)
abbrev b_JM_max : ByteArray := prog_7_method_65_code
def y_JM_max : MethodName := ⟨R_JM, "max", "(II)I"⟩
abbrev k_JM_max : Cond := .code y_JM_max b_JM_max 2 (some .int)
theorem ci_JM_max : k_JM_max ∈ tb_l := in_tb 180 (by decide +kernel) (by decide +kernel)
theorem st_JM_max : Cond.static y_JM_max ∈ tb_l := in_tb 179 (by decide +kernel) (by decide +kernel)
abbrev b_X_missing : ByteArray := prog_1_method_13_code
def y_X_missing : MethodName := ⟨R_X, "missing", "(I)I"⟩
abbrev k_X_missing : Cond := .code y_X_missing b_X_missing 2 (some .int)
theorem ci_X_missing : k_X_missing ∈ tb_l := in_tb 184 (by decide +kernel) (by decide +kernel)
theorem im_X_missing : Cond.instanceMethod y_X_missing ∈ tb_l := in_tb 182 (by decide +kernel) (by decide +kernel)
theorem se_X_missing : Cond.selects R_X y_X_missing y_X_missing ∈ tb_l := in_tb 183 (by decide +kernel) (by decide +kernel)
abbrev b_X_left : ByteArray := prog_1_method_14_code
def y_X_left : MethodName := ⟨R_X, "left", "(I)I"⟩
abbrev k_X_left : Cond := .code y_X_left b_X_left 6 (some .int)
theorem ci_X_left : k_X_left ∈ tb_l := in_tb 188 (by decide +kernel) (by decide +kernel)
theorem im_X_left : Cond.instanceMethod y_X_left ∈ tb_l := in_tb 186 (by decide +kernel) (by decide +kernel)
theorem se_X_left : Cond.selects R_X y_X_left y_X_left ∈ tb_l := in_tb 187 (by decide +kernel) (by decide +kernel)
abbrev b_L_share : ByteArray := method_3_code
def y_L_share : MethodName := ⟨R_L, "share", "(LFacetRows;III[J)I"⟩
abbrev b_X_share : ByteArray := prog_1_method_12_code
def y_X_share : MethodName := ⟨R_X, "share", "(III)J"⟩
abbrev k_X_share : Cond := .code y_X_share b_X_share 9 (some .long)
theorem ci_X_share : k_X_share ∈ tb_l := in_tb 196 (by decide +kernel) (by decide +kernel)
theorem im_X_share : Cond.instanceMethod y_X_share ∈ tb_l := in_tb 194 (by decide +kernel) (by decide +kernel)
theorem se_X_share : Cond.selects R_X y_X_share y_X_share ∈ tb_l := in_tb 195 (by decide +kernel) (by decide +kernel)
abbrev b_X_commonDivisor : ByteArray := prog_1_method_31_code
def y_X_commonDivisor : MethodName := ⟨R_X, "commonDivisor", "(II)I"⟩
abbrev k_X_commonDivisor : Cond := .code y_X_commonDivisor b_X_commonDivisor 3 (some .int)
theorem ci_X_commonDivisor : k_X_commonDivisor ∈ tb_l := in_tb 265 (by decide +kernel) (by decide +kernel)
theorem st_X_commonDivisor : Cond.static y_X_commonDivisor ∈ tb_l := in_tb 264 (by decide +kernel) (by decide +kernel)
abbrev b_M_init : ByteArray := prog_3_method_1_code
def y_M_init : MethodName := ⟨R_M, "<init>", "()V"⟩
abbrev k_M_init : Cond := .code y_M_init b_M_init 2 none
theorem ci_M_init : k_M_init ∈ tb_l := in_tb 270 (by decide +kernel) (by decide +kernel)
theorem im_M_init : Cond.instanceMethod y_M_init ∈ tb_l := in_tb 269 (by decide +kernel) (by decide +kernel)
abbrev b_M_thrown : ByteArray := prog_3_method_2_code
def y_M_thrown : MethodName := ⟨R_M, "thrown", "()I"⟩
abbrev k_M_thrown : Cond := .code y_M_thrown b_M_thrown 1 (some .int)
theorem ci_M_thrown : k_M_thrown ∈ tb_l := in_tb 315 (by decide +kernel) (by decide +kernel)
theorem im_M_thrown : Cond.instanceMethod y_M_thrown ∈ tb_l := in_tb 313 (by decide +kernel) (by decide +kernel)
theorem se_M_thrown : Cond.selects R_M y_M_thrown y_M_thrown ∈ tb_l := in_tb 314 (by decide +kernel) (by decide +kernel)
abbrev b_M_record : ByteArray := prog_3_method_6_code
def y_M_record : MethodName := ⟨R_M, "record", "()I"⟩
abbrev k_M_record : Cond := .code y_M_record b_M_record 1 (some .int)
theorem ci_M_record : k_M_record ∈ tb_l := in_tb 319 (by decide +kernel) (by decide +kernel)
theorem im_M_record : Cond.instanceMethod y_M_record ∈ tb_l := in_tb 317 (by decide +kernel) (by decide +kernel)
theorem se_M_record : Cond.selects R_M y_M_record y_M_record ∈ tb_l := in_tb 318 (by decide +kernel) (by decide +kernel)
abbrev b_M_value : ByteArray := prog_3_method_8_code
def y_M_value : MethodName := ⟨R_M, "value", "(III)I"⟩
abbrev k_M_value : Cond := .code y_M_value b_M_value 6 (some .int)
theorem ci_M_value : k_M_value ∈ tb_l := in_tb 323 (by decide +kernel) (by decide +kernel)
theorem im_M_value : Cond.instanceMethod y_M_value ∈ tb_l := in_tb 321 (by decide +kernel) (by decide +kernel)
theorem se_M_value : Cond.selects R_M y_M_value y_M_value ∈ tb_l := in_tb 322 (by decide +kernel) (by decide +kernel)
abbrev b_M_isRecord : ByteArray := prog_3_method_3_code
def y_M_isRecord : MethodName := ⟨R_M, "isRecord", "(I)Z"⟩
abbrev k_M_isRecord : Cond := .code y_M_isRecord b_M_isRecord 2 (some .boolean)
theorem ci_M_isRecord : k_M_isRecord ∈ tb_l := in_tb 327 (by decide +kernel) (by decide +kernel)
theorem im_M_isRecord : Cond.instanceMethod y_M_isRecord ∈ tb_l := in_tb 326 (by decide +kernel) (by decide +kernel)
theorem se_M_isRecord : Cond.selects R_M y_M_isRecord y_M_isRecord ∈ tb_l := in_tb 13 (by decide +kernel) (by decide +kernel)
abbrev b_M_isValue : ByteArray := prog_3_method_5_code
def y_M_isValue : MethodName := ⟨R_M, "isValue", "(II)Z"⟩
abbrev k_M_isValue : Cond := .code y_M_isValue b_M_isValue 2 (some .boolean)
theorem ci_M_isValue : k_M_isValue ∈ tb_l := in_tb 330 (by decide +kernel) (by decide +kernel)
theorem st_M_isValue : Cond.static y_M_isValue ∈ tb_l := in_tb 329 (by decide +kernel) (by decide +kernel)
abbrev b_M_isFacet : ByteArray := prog_3_method_4_code
def y_M_isFacet : MethodName := ⟨R_M, "isFacet", "(I)Z"⟩
abbrev k_M_isFacet : Cond := .code y_M_isFacet b_M_isFacet 1 (some .boolean)
theorem ci_M_isFacet : k_M_isFacet ∈ tb_l := in_tb 333 (by decide +kernel) (by decide +kernel)
theorem st_M_isFacet : Cond.static y_M_isFacet ∈ tb_l := in_tb 332 (by decide +kernel) (by decide +kernel)
abbrev b_M_find : ByteArray := prog_3_method_7_code
def y_M_find : MethodName := ⟨R_M, "find", "(III)I"⟩
abbrev k_M_find : Cond := .code y_M_find b_M_find 5 (some .int)
theorem ci_M_find : k_M_find ∈ tb_l := in_tb 337 (by decide +kernel) (by decide +kernel)
theorem im_M_find : Cond.instanceMethod y_M_find ∈ tb_l := in_tb 336 (by decide +kernel) (by decide +kernel)
theorem se_M_find : Cond.selects R_M y_M_find y_M_find ∈ tb_l := in_tb 14 (by decide +kernel) (by decide +kernel)
abbrev b_M_gone : ByteArray := prog_3_method_9_code
def y_M_gone : MethodName := ⟨R_M, "gone", "(III)Z"⟩
abbrev k_M_gone : Cond := .code y_M_gone b_M_gone 6 (some .boolean)
theorem ci_M_gone : k_M_gone ∈ tb_l := in_tb 341 (by decide +kernel) (by decide +kernel)
theorem im_M_gone : Cond.instanceMethod y_M_gone ∈ tb_l := in_tb 339 (by decide +kernel) (by decide +kernel)
theorem se_M_gone : Cond.selects R_M y_M_gone y_M_gone ∈ tb_l := in_tb 340 (by decide +kernel) (by decide +kernel)
abbrev b_M_narrower : ByteArray := prog_3_method_11_code
def y_M_narrower : MethodName := ⟨R_M, "narrower", "(III)I"⟩
abbrev k_M_narrower : Cond := .code y_M_narrower b_M_narrower 4 (some .int)
theorem ci_M_narrower : k_M_narrower ∈ tb_l := in_tb 345 (by decide +kernel) (by decide +kernel)
theorem im_M_narrower : Cond.instanceMethod y_M_narrower ∈ tb_l := in_tb 343 (by decide +kernel) (by decide +kernel)
theorem se_M_narrower : Cond.selects R_M y_M_narrower y_M_narrower ∈ tb_l := in_tb 344 (by decide +kernel) (by decide +kernel)
abbrev b_M_lies : ByteArray := prog_3_method_10_code
def y_M_lies : MethodName := ⟨R_M, "lies", "(III)Z"⟩
abbrev k_M_lies : Cond := .code y_M_lies b_M_lies 5 (some .boolean)
theorem ci_M_lies : k_M_lies ∈ tb_l := in_tb 349 (by decide +kernel) (by decide +kernel)
theorem im_M_lies : Cond.instanceMethod y_M_lies ∈ tb_l := in_tb 348 (by decide +kernel) (by decide +kernel)
theorem se_M_lies : Cond.selects R_M y_M_lies y_M_lies ∈ tb_l := in_tb 15 (by decide +kernel) (by decide +kernel)
abbrev b_M_hit : ByteArray := prog_3_method_13_code
def y_M_hit : MethodName := ⟨R_M, "hit", "(IZ)I"⟩
abbrev k_M_hit : Cond := .code y_M_hit b_M_hit 5 (some .int)
theorem ci_M_hit : k_M_hit ∈ tb_l := in_tb 353 (by decide +kernel) (by decide +kernel)
theorem im_M_hit : Cond.instanceMethod y_M_hit ∈ tb_l := in_tb 351 (by decide +kernel) (by decide +kernel)
theorem se_M_hit : Cond.selects R_M y_M_hit y_M_hit ∈ tb_l := in_tb 352 (by decide +kernel) (by decide +kernel)
abbrev b_M_choose : ByteArray := prog_3_method_14_code
def y_M_choose : MethodName := ⟨R_M, "choose", "(II)I"⟩
abbrev k_M_choose : Cond := .code y_M_choose b_M_choose 3 (some .int)
theorem ci_M_choose : k_M_choose ∈ tb_l := in_tb 357 (by decide +kernel) (by decide +kernel)
theorem im_M_choose : Cond.instanceMethod y_M_choose ∈ tb_l := in_tb 355 (by decide +kernel) (by decide +kernel)
theorem se_M_choose : Cond.selects R_M y_M_choose y_M_choose ∈ tb_l := in_tb 356 (by decide +kernel) (by decide +kernel)
abbrev b_M_sort : ByteArray := prog_3_method_12_code
def y_M_sort : MethodName := ⟨R_M, "sort", "()V"⟩
abbrev k_M_sort : Cond := .code y_M_sort b_M_sort 4 none
theorem ci_M_sort : k_M_sort ∈ tb_l := in_tb 361 (by decide +kernel) (by decide +kernel)
theorem im_M_sort : Cond.instanceMethod y_M_sort ∈ tb_l := in_tb 360 (by decide +kernel) (by decide +kernel)
theorem se_M_sort : Cond.selects R_M y_M_sort y_M_sort ∈ tb_l := in_tb 16 (by decide +kernel) (by decide +kernel)
abbrev b_M_count : ByteArray := prog_3_method_16_code
def y_M_count : MethodName := ⟨R_M, "count", "(II)I"⟩
abbrev k_M_count : Cond := .code y_M_count b_M_count 3 (some .int)
theorem ci_M_count : k_M_count ∈ tb_l := in_tb 365 (by decide +kernel) (by decide +kernel)
theorem im_M_count : Cond.instanceMethod y_M_count ∈ tb_l := in_tb 363 (by decide +kernel) (by decide +kernel)
theorem se_M_count : Cond.selects R_M y_M_count y_M_count ∈ tb_l := in_tb 364 (by decide +kernel) (by decide +kernel)
abbrev b_M_reckon : ByteArray := prog_3_method_15_code
def y_M_reckon : MethodName := ⟨R_M, "reckon", "(I)V"⟩
abbrev k_M_reckon : Cond := .code y_M_reckon b_M_reckon 5 none
theorem ci_M_reckon : k_M_reckon ∈ tb_l := in_tb 369 (by decide +kernel) (by decide +kernel)
theorem im_M_reckon : Cond.instanceMethod y_M_reckon ∈ tb_l := in_tb 368 (by decide +kernel) (by decide +kernel)
theorem se_M_reckon : Cond.selects R_M y_M_reckon y_M_reckon ∈ tb_l := in_tb 17 (by decide +kernel) (by decide +kernel)
abbrev b_M_top : ByteArray := prog_3_method_18_code
def y_M_top : MethodName := ⟨R_M, "top", "(II)I"⟩
abbrev k_M_top : Cond := .code y_M_top b_M_top 3 (some .int)
theorem ci_M_top : k_M_top ∈ tb_l := in_tb 373 (by decide +kernel) (by decide +kernel)
theorem im_M_top : Cond.instanceMethod y_M_top ∈ tb_l := in_tb 371 (by decide +kernel) (by decide +kernel)
theorem se_M_top : Cond.selects R_M y_M_top y_M_top ∈ tb_l := in_tb 372 (by decide +kernel) (by decide +kernel)
abbrev b_M_ranked : ByteArray := prog_3_method_17_code
def y_M_ranked : MethodName := ⟨R_M, "ranked", "(III)I"⟩
abbrev k_M_ranked : Cond := .code y_M_ranked b_M_ranked 7 (some .int)
theorem ci_M_ranked : k_M_ranked ∈ tb_l := in_tb 377 (by decide +kernel) (by decide +kernel)
theorem im_M_ranked : Cond.instanceMethod y_M_ranked ∈ tb_l := in_tb 376 (by decide +kernel) (by decide +kernel)
theorem se_M_ranked : Cond.selects R_M y_M_ranked y_M_ranked ∈ tb_l := in_tb 18 (by decide +kernel) (by decide +kernel)
abbrev b_M_below : ByteArray := prog_3_method_19_code
def y_M_below : MethodName := ⟨R_M, "below", "(IZII)I"⟩
abbrev k_M_below : Cond := .code y_M_below b_M_below 5 (some .int)
theorem ci_M_below : k_M_below ∈ tb_l := in_tb 381 (by decide +kernel) (by decide +kernel)
theorem im_M_below : Cond.instanceMethod y_M_below ∈ tb_l := in_tb 379 (by decide +kernel) (by decide +kernel)
theorem se_M_below : Cond.selects R_M y_M_below y_M_below ∈ tb_l := in_tb 380 (by decide +kernel) (by decide +kernel)
abbrev b_M_band : ByteArray := prog_3_method_20_code
def y_M_band : MethodName := ⟨R_M, "band", "(III)I"⟩
abbrev k_M_band : Cond := .code y_M_band b_M_band 8 (some .int)
theorem ci_M_band : k_M_band ∈ tb_l := in_tb 385 (by decide +kernel) (by decide +kernel)
theorem im_M_band : Cond.instanceMethod y_M_band ∈ tb_l := in_tb 383 (by decide +kernel) (by decide +kernel)
theorem se_M_band : Cond.selects R_M y_M_band y_M_band ∈ tb_l := in_tb 384 (by decide +kernel) (by decide +kernel)
abbrev b_M_share : ByteArray := prog_3_method_21_code
def y_M_share : MethodName := ⟨R_M, "share", "(III)J"⟩
abbrev k_M_share : Cond := .code y_M_share b_M_share 9 (some .long)
theorem ci_M_share : k_M_share ∈ tb_l := in_tb 389 (by decide +kernel) (by decide +kernel)
theorem im_M_share : Cond.instanceMethod y_M_share ∈ tb_l := in_tb 387 (by decide +kernel) (by decide +kernel)
theorem se_M_share : Cond.selects R_M y_M_share y_M_share ∈ tb_l := in_tb 388 (by decide +kernel) (by decide +kernel)
abbrev b_M_missing : ByteArray := prog_3_method_22_code
def y_M_missing : MethodName := ⟨R_M, "missing", "(I)I"⟩
abbrev k_M_missing : Cond := .code y_M_missing b_M_missing 6 (some .int)
theorem ci_M_missing : k_M_missing ∈ tb_l := in_tb 394 (by decide +kernel) (by decide +kernel)
theorem im_M_missing : Cond.instanceMethod y_M_missing ∈ tb_l := in_tb 392 (by decide +kernel) (by decide +kernel)
theorem se_M_missing : Cond.selects R_M y_M_missing y_M_missing ∈ tb_l := in_tb 393 (by decide +kernel) (by decide +kernel)
abbrev b_M_left : ByteArray := prog_3_method_23_code
def y_M_left : MethodName := ⟨R_M, "left", "(I)I"⟩
abbrev k_M_left : Cond := .code y_M_left b_M_left 4 (some .int)
theorem ci_M_left : k_M_left ∈ tb_l := in_tb 398 (by decide +kernel) (by decide +kernel)
theorem im_M_left : Cond.instanceMethod y_M_left ∈ tb_l := in_tb 396 (by decide +kernel) (by decide +kernel)
theorem se_M_left : Cond.selects R_M y_M_left y_M_left ∈ tb_l := in_tb 397 (by decide +kernel) (by decide +kernel)
theorem ml_X_JA_fill : Cond.methodLink R_X 20 y_JA_fill ∈ tb_l := in_tb 37 (by decide +kernel) (by decide +kernel)
theorem ml_X_X_isRecord : Cond.methodLink R_X 44 y_X_isRecord ∈ tb_l := in_tb 76 (by decide +kernel) (by decide +kernel)
theorem ml_X_X_isFacet : Cond.methodLink R_X 48 y_X_isFacet ∈ tb_l := in_tb 80 (by decide +kernel) (by decide +kernel)
theorem ml_X_X_isValue : Cond.methodLink R_X 51 y_X_isValue ∈ tb_l := in_tb 83 (by decide +kernel) (by decide +kernel)
theorem ml_X_X_holds : Cond.methodLink R_X 54 y_X_holds ∈ tb_l := in_tb 86 (by decide +kernel) (by decide +kernel)
theorem ml_X_X_cell : Cond.methodLink R_X 58 y_X_cell ∈ tb_l := in_tb 90 (by decide +kernel) (by decide +kernel)
theorem ml_X_X_bit : Cond.methodLink R_X 62 y_X_bit ∈ tb_l := in_tb 93 (by decide +kernel) (by decide +kernel)
theorem ml_X_X_raise : Cond.methodLink R_X 66 y_X_raise ∈ tb_l := in_tb 96 (by decide +kernel) (by decide +kernel)
theorem ml_X_X_heldOf : Cond.methodLink R_X 70 y_X_heldOf ∈ tb_l := in_tb 100 (by decide +kernel) (by decide +kernel)
theorem ml_X_X_raiseAll : Cond.methodLink R_X 75 y_X_raiseAll ∈ tb_l := in_tb 109 (by decide +kernel) (by decide +kernel)
theorem ml_X_X_isAtOrBelow : Cond.methodLink R_X 79 y_X_isAtOrBelow ∈ tb_l := in_tb 117 (by decide +kernel) (by decide +kernel)
theorem ml_X_JL_bitCount : Cond.methodLink R_X 82 y_JL_bitCount ∈ tb_l := in_tb 125 (by decide +kernel) (by decide +kernel)
theorem ml_X_X_hitsLeft : Cond.methodLink R_X 88 y_X_hitsLeft ∈ tb_l := in_tb 135 (by decide +kernel) (by decide +kernel)
theorem ml_X_X_countValues : Cond.methodLink R_X 92 y_X_countValues ∈ tb_l := in_tb 151 (by decide +kernel) (by decide +kernel)
theorem ml_X_X_ranked : Cond.methodLink R_X 95 y_X_ranked ∈ tb_l := in_tb 155 (by decide +kernel) (by decide +kernel)
theorem ml_X_X_dropOthersThanBelow : Cond.methodLink R_X 99 y_X_dropOthersThanBelow ∈ tb_l := in_tb 163 (by decide +kernel) (by decide +kernel)
theorem ml_X_X_holdersBetween : Cond.methodLink R_X 103 y_X_holdersBetween ∈ tb_l := in_tb 171 (by decide +kernel) (by decide +kernel)
theorem ml_X_X_commonDivisor : Cond.methodLink R_X 114 y_X_commonDivisor ∈ tb_l := in_tb 263 (by decide +kernel) (by decide +kernel)
theorem ml_X_JM_min : Cond.methodLink R_X 117 y_JM_min ∈ tb_l := in_tb 175 (by decide +kernel) (by decide +kernel)
theorem ml_X_JM_max : Cond.methodLink R_X 122 y_JM_max ∈ tb_l := in_tb 178 (by decide +kernel) (by decide +kernel)
theorem ml_X_X_admitted : Cond.methodLink R_X 125 y_X_admitted ∈ tb_l := in_tb 139 (by decide +kernel) (by decide +kernel)
theorem ml_L_X_share : Cond.methodLink R_L 7 y_X_share ∈ tb_l := in_tb 193 (by decide +kernel) (by decide +kernel)
theorem ml_L_X_init : Cond.methodLink R_L 15 y_X_init ∈ tb_l := in_tb 31 (by decide +kernel) (by decide +kernel)
theorem ml_L_M_init : Cond.methodLink R_L 18 y_M_init ∈ tb_l := in_tb 268 (by decide +kernel) (by decide +kernel)
theorem ml_L_X_record : Cond.methodLink R_L 19 y_X_record ∈ tb_l := in_tb 68 (by decide +kernel) (by decide +kernel)
theorem ml_L_M_record : Cond.methodLink R_L 23 y_M_record ∈ tb_l := in_tb 316 (by decide +kernel) (by decide +kernel)
theorem ml_L_X_value : Cond.methodLink R_L 24 y_X_value ∈ tb_l := in_tb 72 (by decide +kernel) (by decide +kernel)
theorem ml_L_M_value : Cond.methodLink R_L 28 y_M_value ∈ tb_l := in_tb 320 (by decide +kernel) (by decide +kernel)
theorem ml_L_X_gone : Cond.methodLink R_L 29 y_X_gone ∈ tb_l := in_tb 104 (by decide +kernel) (by decide +kernel)
theorem ml_L_M_gone : Cond.methodLink R_L 33 y_M_gone ∈ tb_l := in_tb 338 (by decide +kernel) (by decide +kernel)
theorem ml_L_X_narrower : Cond.methodLink R_L 34 y_X_narrower ∈ tb_l := in_tb 113 (by decide +kernel) (by decide +kernel)
theorem ml_L_M_narrower : Cond.methodLink R_L 37 y_M_narrower ∈ tb_l := in_tb 342 (by decide +kernel) (by decide +kernel)
theorem ml_L_X_hit : Cond.methodLink R_L 38 y_X_hit ∈ tb_l := in_tb 121 (by decide +kernel) (by decide +kernel)
theorem ml_L_M_hit : Cond.methodLink R_L 42 y_M_hit ∈ tb_l := in_tb 350 (by decide +kernel) (by decide +kernel)
theorem ml_L_X_choose : Cond.methodLink R_L 43 y_X_choose ∈ tb_l := in_tb 131 (by decide +kernel) (by decide +kernel)
theorem ml_L_M_choose : Cond.methodLink R_L 47 y_M_choose ∈ tb_l := in_tb 354 (by decide +kernel) (by decide +kernel)
theorem ml_L_X_count : Cond.methodLink R_L 48 y_X_count ∈ tb_l := in_tb 143 (by decide +kernel) (by decide +kernel)
theorem ml_L_M_count : Cond.methodLink R_L 51 y_M_count ∈ tb_l := in_tb 362 (by decide +kernel) (by decide +kernel)
theorem ml_L_X_top : Cond.methodLink R_L 52 y_X_top ∈ tb_l := in_tb 147 (by decide +kernel) (by decide +kernel)
theorem ml_L_M_top : Cond.methodLink R_L 55 y_M_top ∈ tb_l := in_tb 370 (by decide +kernel) (by decide +kernel)
theorem ml_L_X_below : Cond.methodLink R_L 56 y_X_below ∈ tb_l := in_tb 159 (by decide +kernel) (by decide +kernel)
theorem ml_L_M_below : Cond.methodLink R_L 60 y_M_below ∈ tb_l := in_tb 378 (by decide +kernel) (by decide +kernel)
theorem ml_L_X_band : Cond.methodLink R_L 61 y_X_band ∈ tb_l := in_tb 167 (by decide +kernel) (by decide +kernel)
theorem ml_L_M_band : Cond.methodLink R_L 64 y_M_band ∈ tb_l := in_tb 382 (by decide +kernel) (by decide +kernel)
theorem ml_L_L_share : Cond.methodLink R_L 65 y_L_share ∈ tb_l := in_tb 189 (by decide +kernel) (by decide +kernel)
theorem ml_L_M_share : Cond.methodLink R_L 70 y_M_share ∈ tb_l := in_tb 386 (by decide +kernel) (by decide +kernel)
theorem ml_L_M_thrown : Cond.methodLink R_L 71 y_M_thrown ∈ tb_l := in_tb 312 (by decide +kernel) (by decide +kernel)
theorem ml_L_X_missing : Cond.methodLink R_L 74 y_X_missing ∈ tb_l := in_tb 181 (by decide +kernel) (by decide +kernel)
theorem ml_L_M_missing : Cond.methodLink R_L 78 y_M_missing ∈ tb_l := in_tb 391 (by decide +kernel) (by decide +kernel)
theorem ml_L_X_left : Cond.methodLink R_L 79 y_X_left ∈ tb_l := in_tb 185 (by decide +kernel) (by decide +kernel)
theorem ml_L_M_left : Cond.methodLink R_L 82 y_M_left ∈ tb_l := in_tb 395 (by decide +kernel) (by decide +kernel)
theorem ml_M_M_isFacet : Cond.methodLink R_M 45 y_M_isFacet ∈ tb_l := in_tb 331 (by decide +kernel) (by decide +kernel)
theorem ml_M_M_isRecord : Cond.methodLink R_M 52 y_M_isRecord ∈ tb_l := in_tb 324 (by decide +kernel) (by decide +kernel)
theorem ml_M_M_isValue : Cond.methodLink R_M 55 y_M_isValue ∈ tb_l := in_tb 328 (by decide +kernel) (by decide +kernel)
theorem ml_M_M_find : Cond.methodLink R_M 59 y_M_find ∈ tb_l := in_tb 334 (by decide +kernel) (by decide +kernel)
theorem ml_M_M_lies : Cond.methodLink R_M 63 y_M_lies ∈ tb_l := in_tb 346 (by decide +kernel) (by decide +kernel)
theorem ml_M_M_sort : Cond.methodLink R_M 70 y_M_sort ∈ tb_l := in_tb 358 (by decide +kernel) (by decide +kernel)
theorem ml_M_M_reckon : Cond.methodLink R_M 73 y_M_reckon ∈ tb_l := in_tb 366 (by decide +kernel) (by decide +kernel)
theorem ml_M_M_ranked : Cond.methodLink R_M 77 y_M_ranked ∈ tb_l := in_tb 374 (by decide +kernel) (by decide +kernel)
theorem ml_X_obj : Cond.methodLink R_X 1 objectInit ∈ tb_l := in_tb 34 (by decide +kernel) (by decide +kernel)
theorem ml_M_obj : Cond.methodLink R_M 1 objectInit ∈ tb_l := in_tb 271 (by decide +kernel) (by decide +kernel)
theorem im_obj : Cond.instanceMethod objectInit ∈ tb_l := in_tb 35 (by decide +kernel) (by decide +kernel)
theorem ci_obj : Cond.code objectInit ⟨#[0xb1]⟩ 1 none ∈ tb_l := in_tb 36 (by decide +kernel) (by decide +kernel)
theorem ac_int : Cond.arrayClass .int ∈ tb_l := in_tb 66 (by decide +kernel) (by decide +kernel)
theorem ac_long : Cond.arrayClass .long ∈ tb_l := in_tb 65 (by decide +kernel) (by decide +kernel)
theorem ac_boolean : Cond.arrayClass .boolean ∈ tb_l := in_tb 67 (by decide +kernel) (by decide +kernel)
end
section
abbrev fx_M : Type := (Program × Launch × Env × Room) × (State × MethodId × Array Value × List Frame) × (Method × Code × (State → Prop)) × (va_G × List vw_C × (Nat → Prop)) × (Nat × Nat × Nat)
def fx_fl : Nat → List (Option Value) → List (Nat × Value)
  | _, [] => []
  | n, none :: r => fx_fl (n + 1) r
  | n, some v :: r => (n, v) :: fx_fl (n + 1) r
theorem fx_fl_mem : ∀ (pl : List (Option Value)) (n j : Nat) (v : Value), (j, v) ∈ fx_fl n pl ↔ ∃ i, pl[i]? = some (some v) ∧ j = n + i := by
  intro pl
  induction pl with
  | nil => intro n j v; simp [fx_fl]
  | cons a r ih =>
    intro n j v
    cases a with
    | none =>
      rw [fx_fl, ih]
      constructor
      · rintro ⟨i, h1, h2⟩
        exact ⟨i + 1, by simpa using h1, by omega⟩
      · rintro ⟨i, h1, h2⟩
        cases i with
        | zero => simp at h1
        | succ i => exact ⟨i, by simpa using h1, by omega⟩
    | some w =>
      rw [fx_fl, List.mem_cons, ih]
      constructor
      · rintro (h | ⟨i, h1, h2⟩)
        · cases h
          exact ⟨0, rfl, rfl⟩
        · exact ⟨i + 1, by simpa using h1, by omega⟩
      · rintro ⟨i, h1, h2⟩
        cases i with
        | zero =>
          left
          simp at h1
          rw [h1, h2]
          rfl
        | succ i => exact Or.inr ⟨i, by simpa using h1, by omega⟩
def fx_has (ls : Array Slot) (nL : Nat) (pl : List (Option Value)) : Prop := pl.length ≤ nL ∧ lv_has ls nL (fx_fl 0 pl)
theorem fx_has.at {ls : Array Slot} {nL : Nat} {pl : List (Option Value)} (h : fx_has ls nL pl) {i : Nat} {v : Value} (hv : pl[i]? = some (some v)) : ls[i]? = some (.val v) :=
  h.2.2.2 (i, v) ((fx_fl_mem pl 0 i v).mpr ⟨i, hv, by omega⟩)
theorem fx_has.lt {ls : Array Slot} {nL : Nat} {pl : List (Option Value)} (h : fx_has ls nL pl) {i : Nat} (hi : i < pl.length) : i < nL := Nat.lt_of_lt_of_le hi h.1
/-- the place before isn't a long -/
def fx_c1 : Option Value → Bool
  | some v => v.category == 1
  | none => true
def fx_pr (pl : List (Option Value)) (i : Nat) : Bool := match i with
  | 0 => true
  | i + 1 => fx_c1 (pl[i]?.getD none)
theorem fx_pr_ne {pl : List (Option Value)} {i j : Nat} {v : Value} (h : fx_pr pl i = true) (hj : pl[j]? = some (some v)) (e : j + 1 = i) : ¬ v.category = 2 := by
  subst e
  simp [fx_pr, fx_c1, hj] at h
  omega
theorem fx_st1 {ls : Array Slot} {nL : Nat} {pl : List (Option Value)} {i : Nat} {x : Value} (h : fx_has ls nL pl) (hp : fx_pr pl i = true) {ls' : Array Slot} (h2 : lv_has ls' nL ((i, x) :: (fx_fl 0 pl).filter (fun q => !(q.1 == i) && !(q.1 + 1 == i && q.2.category == 2)))) : fx_has ls' nL (pl.set i (some x)) := by
  refine ⟨by rw [List.length_set]; exact h.1, h2.1, h2.2.1, ?_⟩
  rintro ⟨j, v⟩ hq
  obtain ⟨k, h3, h4⟩ := (fx_fl_mem _ 0 j v).mp hq
  have e : j = k := by omega
  subst e
  refine h2.2.2 (j, v) ?_
  by_cases hj : j = i
  · subst hj
    rw [List.getElem?_set] at h3
    simp at h3
    rw [← h3.2]
    exact List.mem_cons_self
  · rw [List.getElem?_set_ne (fun q => hj q.symm)] at h3
    refine List.mem_cons_of_mem _ (List.mem_filter.mpr ⟨(fx_fl_mem pl 0 j v).mpr ⟨j, h3, by omega⟩, ?_⟩)
    have hc : j + 1 = i → ¬ v.category = 2 := fx_pr_ne hp h3
    by_cases h5 : j + 1 = i
    · have h6 := hc h5
      simp [hj, h6]
    · simp [hj, h5]
theorem fx_st2 {ls : Array Slot} {nL : Nat} {pl : List (Option Value)} {i : Nat} {x : Value} (h : fx_has ls nL pl) (hp : fx_pr pl i = true) {ls' : Array Slot} (h2 : lv_has ls' nL ((i, x) :: (fx_fl 0 pl).filter (fun q => !(q.1 == i) && (!(q.1 == i + 1) && !(q.1 + 1 == i && q.2.category == 2))))) : fx_has ls' nL ((pl.set i (some x)).set (i + 1) none) := by
  refine ⟨by rw [List.length_set, List.length_set]; exact h.1, h2.1, h2.2.1, ?_⟩
  rintro ⟨j, v⟩ hq
  obtain ⟨k, h3, h4⟩ := (fx_fl_mem _ 0 j v).mp hq
  have e : j = k := by omega
  subst e
  refine h2.2.2 (j, v) ?_
  by_cases hj1 : j = i + 1
  · subst hj1
    rw [List.getElem?_set] at h3
    simp at h3
  · rw [List.getElem?_set_ne (fun q => hj1 q.symm)] at h3
    by_cases hj : j = i
    · subst hj
      rw [List.getElem?_set] at h3
      simp at h3
      rw [← h3.2]
      exact List.mem_cons_self
    · rw [List.getElem?_set_ne (fun q => hj q.symm)] at h3
      refine List.mem_cons_of_mem _ (List.mem_filter.mpr ⟨(fx_fl_mem pl 0 j v).mpr ⟨j, h3, by omega⟩, ?_⟩)
      have hc : j + 1 = i → ¬ v.category = 2 := fx_pr_ne hp h3
      by_cases h5 : j + 1 = i
      · have h6 := hc h5
        simp [hj, hj1, h6]
      · simp [hj, hj1, h5]
def fx_J (X : fx_M) (ws : va_W) (pc : Nat) (pl : List (Option Value)) (st : List Value) : Prop :=
  ∀ (H : Heap) (locs : List Loc) (ls : Array Slot), va_P X.2.2.2.1.1 X.2.2.2.1.2.1 ws H → va_D X.2.2.2.1.2.2 ws → va_S X.2.2.2.1.2.2 X.2.1.1.heap H locs → fx_has ls X.2.2.2.2.1 pl →
    W X.1.1 X.1.2.1 X.1.2.2.1 X.1.2.2.2 X.2.1.1 X.2.1.2.1 X.2.1.2.2.1 X.2.1.2.2.2 X.2.2.1.1 X.2.2.1.2.1 H locs X.2.2.2.2.2.1 X.2.2.2.2.2.2 X.2.2.1.2.2 (F0 X.2.1.2.1 pc ls st)
/-- what holds throughout a method's body -/
def fx_C (X : fx_M) (l : Launch) (rm : Room) (D : va_G) (cl : List vw_C) (tys : List (ClassId × FieldType)) (cc : ByteArray) (Ts : List Cond) (own : String) : Prop :=
  X.1.1.tables.exec = Jvm.exec ∧ X.2.2.1.2.1.code = cc ∧ X.2.2.1.2.1.maxLocals = X.2.2.2.2.1 ∧ X.2.1.1.vm.findClass own = some X.2.1.2.1.cls ∧ (∀ w ∈ Ts, w.before X.2.1.2.2.1 X.2.1.1 = true) ∧ va_K D cl tys X.2.1.1 ∧ (∀ q, X.2.1.1.heap.size ≤ q → X.2.2.2.1.2.2 q) ∧ X.1.2.1 = l ∧ X.1.2.2.2 = rm ∧ X.2.2.2.1.1 = D ∧ X.2.2.2.1.2.1 = cl ∧ (X.2.2.2.2.2.1 ≤ rm.cells ∧ X.2.2.2.2.2.2 ≤ rm.slots)
section FX
variable {X : fx_M} {l : Launch} {rm : Room} {D : va_G} {cl : List vw_C} {tys : List (ClassId × FieldType)} {cc : ByteArray} {Ts : List Cond} {own : String} {ws : va_W} {pc : Nat} {pl : List (Option Value)} {st : List Value}

theorem jr_iconst {n : Int} {v : Int32} (C : fx_C X l rm D cl tys cc Ts own) (hd : decode cc pc = .ok (.iconst n, 1)) (hv : Int32.ofInt n = v) (k : fx_J X ws (pc + 1) pl (.int v :: st)) : fx_J X ws pc pl (st) := fun H locs ls hP hD hS hl => lv_iconst C.1 C.2.1 hd hv (k H locs ls hP hD hS hl)
theorem jr_bipush {n : Int} {v : Int32} (C : fx_C X l rm D cl tys cc Ts own) (hd : decode cc pc = .ok (.bipush n, 2)) (hv : (Int8.ofInt n).toInt32 = v) (k : fx_J X ws (pc + 2) pl (.int v :: st)) : fx_J X ws pc pl (st) := fun H locs ls hP hD hS hl => lv_bipush C.1 C.2.1 hd hv (k H locs ls hP hD hS hl)
theorem jr_sipush {n : Int} {v : Int32} (C : fx_C X l rm D cl tys cc Ts own) (hd : decode cc pc = .ok (.sipush n, 3)) (hv : (Int16.ofInt n).toInt32 = v) (k : fx_J X ws (pc + 3) pl (.int v :: st)) : fx_J X ws pc pl (st) := fun H locs ls hP hD hS hl => lv_sipush C.1 C.2.1 hd hv (k H locs ls hP hD hS hl)
theorem jr_lconst {n : Fin 2} {v : Int64} (C : fx_C X l rm D cl tys cc Ts own) (hd : decode cc pc = .ok (.lconst n, 1)) (hv : Int64.ofNat (n : Nat) = v) (k : fx_J X ws (pc + 1) pl (.long v :: st)) : fx_J X ws pc pl (st) := fun H locs ls hP hD hS hl => lv_lconst C.1 C.2.1 hd hv (k H locs ls hP hD hS hl)
theorem jr_iadd {x y : Int32} (C : fx_C X l rm D cl tys cc Ts own) (hd : decode cc pc = .ok (.iadd, 1)) (k : fx_J X ws (pc + 1) pl (.int (x + y) :: st)) : fx_J X ws pc pl (.int y :: .int x :: st) := fun H locs ls hP hD hS hl => lv_iadd C.1 C.2.1 hd (k H locs ls hP hD hS hl)
theorem jr_isub {x y : Int32} (C : fx_C X l rm D cl tys cc Ts own) (hd : decode cc pc = .ok (.isub, 1)) (k : fx_J X ws (pc + 1) pl (.int (x - y) :: st)) : fx_J X ws pc pl (.int y :: .int x :: st) := fun H locs ls hP hD hS hl => lv_isub C.1 C.2.1 hd (k H locs ls hP hD hS hl)
theorem jr_imul {x y : Int32} (C : fx_C X l rm D cl tys cc Ts own) (hd : decode cc pc = .ok (.imul, 1)) (k : fx_J X ws (pc + 1) pl (.int (x * y) :: st)) : fx_J X ws pc pl (.int y :: .int x :: st) := fun H locs ls hP hD hS hl => lv_imul C.1 C.2.1 hd (k H locs ls hP hD hS hl)
theorem jr_iand {x y : Int32} (C : fx_C X l rm D cl tys cc Ts own) (hd : decode cc pc = .ok (.iand, 1)) (k : fx_J X ws (pc + 1) pl (.int (x &&& y) :: st)) : fx_J X ws pc pl (.int y :: .int x :: st) := fun H locs ls hP hD hS hl => lv_iand C.1 C.2.1 hd (k H locs ls hP hD hS hl)
theorem jr_ior {x y : Int32} (C : fx_C X l rm D cl tys cc Ts own) (hd : decode cc pc = .ok (.ior, 1)) (k : fx_J X ws (pc + 1) pl (.int (x ||| y) :: st)) : fx_J X ws pc pl (.int y :: .int x :: st) := fun H locs ls hP hD hS hl => lv_ior C.1 C.2.1 hd (k H locs ls hP hD hS hl)
theorem jr_ixor {x y : Int32} (C : fx_C X l rm D cl tys cc Ts own) (hd : decode cc pc = .ok (.ixor, 1)) (k : fx_J X ws (pc + 1) pl (.int (x ^^^ y) :: st)) : fx_J X ws pc pl (.int y :: .int x :: st) := fun H locs ls hP hD hS hl => lv_ixor C.1 C.2.1 hd (k H locs ls hP hD hS hl)
theorem jr_ladd {x y : Int64} (C : fx_C X l rm D cl tys cc Ts own) (hd : decode cc pc = .ok (.ladd, 1)) (k : fx_J X ws (pc + 1) pl (.long (x + y) :: st)) : fx_J X ws pc pl (.long y :: .long x :: st) := fun H locs ls hP hD hS hl => lv_ladd C.1 C.2.1 hd (k H locs ls hP hD hS hl)
theorem jr_lsub {x y : Int64} (C : fx_C X l rm D cl tys cc Ts own) (hd : decode cc pc = .ok (.lsub, 1)) (k : fx_J X ws (pc + 1) pl (.long (x - y) :: st)) : fx_J X ws pc pl (.long y :: .long x :: st) := fun H locs ls hP hD hS hl => lv_lsub C.1 C.2.1 hd (k H locs ls hP hD hS hl)
theorem jr_lmul {x y : Int64} (C : fx_C X l rm D cl tys cc Ts own) (hd : decode cc pc = .ok (.lmul, 1)) (k : fx_J X ws (pc + 1) pl (.long (x * y) :: st)) : fx_J X ws pc pl (.long y :: .long x :: st) := fun H locs ls hP hD hS hl => lv_lmul C.1 C.2.1 hd (k H locs ls hP hD hS hl)
theorem jr_land {x y : Int64} (C : fx_C X l rm D cl tys cc Ts own) (hd : decode cc pc = .ok (.land, 1)) (k : fx_J X ws (pc + 1) pl (.long (x &&& y) :: st)) : fx_J X ws pc pl (.long y :: .long x :: st) := fun H locs ls hP hD hS hl => lv_land C.1 C.2.1 hd (k H locs ls hP hD hS hl)
theorem jr_lor {x y : Int64} (C : fx_C X l rm D cl tys cc Ts own) (hd : decode cc pc = .ok (.lor, 1)) (k : fx_J X ws (pc + 1) pl (.long (x ||| y) :: st)) : fx_J X ws pc pl (.long y :: .long x :: st) := fun H locs ls hP hD hS hl => lv_lor C.1 C.2.1 hd (k H locs ls hP hD hS hl)
theorem jr_lxor {x y : Int64} (C : fx_C X l rm D cl tys cc Ts own) (hd : decode cc pc = .ok (.lxor, 1)) (k : fx_J X ws (pc + 1) pl (.long (x ^^^ y) :: st)) : fx_J X ws pc pl (.long y :: .long x :: st) := fun H locs ls hP hD hS hl => lv_lxor C.1 C.2.1 hd (k H locs ls hP hD hS hl)
theorem jr_idiv {x y : Int32} (C : fx_C X l rm D cl tys cc Ts own) (hd : decode cc pc = .ok (.idiv, 1)) (hne : ¬ y = 0) (k : fx_J X ws (pc + 1) pl (.int (x / y) :: st)) : fx_J X ws pc pl (.int y :: .int x :: st) := fun H locs ls hP hD hS hl => lv_idiv C.1 C.2.1 hd hne (k H locs ls hP hD hS hl)
theorem jr_irem {x y : Int32} (C : fx_C X l rm D cl tys cc Ts own) (hd : decode cc pc = .ok (.irem, 1)) (hne : ¬ y = 0) (k : fx_J X ws (pc + 1) pl (.int (x - x / y * y) :: st)) : fx_J X ws pc pl (.int y :: .int x :: st) := fun H locs ls hP hD hS hl => lv_irem C.1 C.2.1 hd hne (k H locs ls hP hD hS hl)
theorem jr_i2l {x : Int32} {v : Int64} (C : fx_C X l rm D cl tys cc Ts own) (hd : decode cc pc = .ok (.i2l, 1)) (hv : x.toInt64 = v) (k : fx_J X ws (pc + 1) pl (.long v :: st)) : fx_J X ws pc pl (.int x :: st) := fun H locs ls hP hD hS hl => lv_i2l C.1 C.2.1 hd hv (k H locs ls hP hD hS hl)
theorem jr_l2i {x : Int64} {v : Int32} (C : fx_C X l rm D cl tys cc Ts own) (hd : decode cc pc = .ok (.l2i, 1)) (hv : x.toInt32 = v) (k : fx_J X ws (pc + 1) pl (.int v :: st)) : fx_J X ws pc pl (.long x :: st) := fun H locs ls hP hD hS hl => lv_l2i C.1 C.2.1 hd hv (k H locs ls hP hD hS hl)
theorem jr_lushr {x v : Int64} {y : Int32} (C : fx_C X l rm D cl tys cc Ts own) (hd : decode cc pc = .ok (.lushr, 1)) (hv : (x.toUInt64 >>> (y.toInt64.toUInt64 &&& Int64.toUInt64 63)).toInt64 = v) (k : fx_J X ws (pc + 1) pl (.long v :: st)) : fx_J X ws pc pl (.int y :: .long x :: st) := fun H locs ls hP hD hS hl => lv_lushr C.1 C.2.1 hd hv (k H locs ls hP hD hS hl)
theorem jr_lshl {x v : Int64} {y : Int32} (C : fx_C X l rm D cl tys cc Ts own) (hd : decode cc pc = .ok (.lshl, 1)) (hv : x <<< (y.toInt64 &&& 63) = v) (k : fx_J X ws (pc + 1) pl (.long v :: st)) : fx_J X ws pc pl (.int y :: .long x :: st) := fun H locs ls hP hD hS hl => lv_lshl C.1 C.2.1 hd hv (k H locs ls hP hD hS hl)
theorem jr_lcmp {x y : Int64} (C : fx_C X l rm D cl tys cc Ts own) (hd : decode cc pc = .ok (.lcmp, 1)) (k : fx_J X ws (pc + 1) pl (.int (lg_cmp x y) :: st)) : fx_J X ws pc pl (.long y :: .long x :: st) := fun H locs ls hP hD hS hl => W.lcmp C.1 C.2.1 hd (k H locs ls hP hD hS hl)
theorem jr_dup {va : Value} (C : fx_C X l rm D cl tys cc Ts own) (hd : decode cc pc = .ok (.dup, 1)) (hva : va.category = 1) (k : fx_J X ws (pc + 1) pl (va :: va :: st)) : fx_J X ws pc pl (va :: st) := fun H locs ls hP hD hS hl => lv_dup C.1 C.2.1 hd hva (k H locs ls hP hD hS hl)
theorem jr_pop {va : Value} (C : fx_C X l rm D cl tys cc Ts own) (hd : decode cc pc = .ok (.pop, 1)) (hva : va.category = 1) (k : fx_J X ws (pc + 1) pl (st)) : fx_J X ws pc pl (va :: st) := fun H locs ls hP hD hS hl => lv_pop C.1 C.2.1 hd hva (k H locs ls hP hD hS hl)
theorem jr_dup_x1 {va vb : Value} (C : fx_C X l rm D cl tys cc Ts own) (hd : decode cc pc = .ok (.dup_x1, 1)) (hva : va.category = 1) (hvb : vb.category = 1) (k : fx_J X ws (pc + 1) pl (va :: vb :: va :: st)) : fx_J X ws pc pl (va :: vb :: st) := fun H locs ls hP hD hS hl => lv_dup_x1 C.1 C.2.1 hd hva hvb (k H locs ls hP hD hS hl)
theorem jr_dup_x2 {va vb vd : Value} (C : fx_C X l rm D cl tys cc Ts own) (hd : decode cc pc = .ok (.dup_x2, 1)) (hva : va.category = 1) (hvb : vb.category = 1) (hvd : vd.category = 1) (k : fx_J X ws (pc + 1) pl (va :: vb :: vd :: va :: st)) : fx_J X ws pc pl (va :: vb :: vd :: st) := fun H locs ls hP hD hS hl => lv_dup_x2 C.1 C.2.1 hd hva hvb hvd (k H locs ls hP hD hS hl)
theorem jr_dup2_11 {va vb : Value} (C : fx_C X l rm D cl tys cc Ts own) (hd : decode cc pc = .ok (.dup2, 1)) (hva : va.category = 1) (hvb : vb.category = 1) (k : fx_J X ws (pc + 1) pl (va :: vb :: va :: vb :: st)) : fx_J X ws pc pl (va :: vb :: st) := fun H locs ls hP hD hS hl => lv_dup2_11 C.1 C.2.1 hd hva hvb (k H locs ls hP hD hS hl)
theorem jr_dup2_2 {va : Value} (C : fx_C X l rm D cl tys cc Ts own) (hd : decode cc pc = .ok (.dup2, 1)) (hva : va.category = 2) (k : fx_J X ws (pc + 1) pl (va :: va :: st)) : fx_J X ws pc pl (va :: st) := fun H locs ls hP hD hS hl => lv_dup2_2 C.1 C.2.1 hd hva (k H locs ls hP hD hS hl)
theorem jr_pop2_2 {va : Value} (C : fx_C X l rm D cl tys cc Ts own) (hd : decode cc pc = .ok (.pop2, 1)) (hva : va.category = 2) (k : fx_J X ws (pc + 1) pl (st)) : fx_J X ws pc pl (va :: st) := fun H locs ls hP hD hS hl => lv_pop2_2 C.1 C.2.1 hd hva (k H locs ls hP hD hS hl)
theorem jr_iaddN {a b : Nat} (C : fx_C X l rm D cl tys cc Ts own) (hd : decode cc pc = .ok (.iadd, 1)) (k : fx_J X ws (pc + 1) pl (.int (nI (a + b)) :: st)) : fx_J X ws pc pl (.int (nI b) :: .int (nI a) :: st) := jr_iadd C hd (by rw [nI_add]; exact k)
theorem jr_imulN {a b : Nat} (C : fx_C X l rm D cl tys cc Ts own) (hd : decode cc pc = .ok (.imul, 1)) (k : fx_J X ws (pc + 1) pl (.int (nI (a * b)) :: st)) : fx_J X ws pc pl (.int (nI b) :: .int (nI a) :: st) := jr_imul C hd (by rw [pk_mul]; exact k)
theorem jr_isubN {a b : Nat} (C : fx_C X l rm D cl tys cc Ts own) (hd : decode cc pc = .ok (.isub, 1)) (h : b ≤ a) (k : fx_J X ws (pc + 1) pl (.int (nI (a - b)) :: st)) : fx_J X ws pc pl (.int (nI b) :: .int (nI a) :: st) := jr_isub C hd (by rw [pk_sub h]; exact k)
theorem jr_iremN {a b : Nat} (C : fx_C X l rm D cl tys cc Ts own) (hd : decode cc pc = .ok (.irem, 1)) (ha : a < 2 ^ 31) (h0 : 0 < b) (hb : b < 2 ^ 31) (k : fx_J X ws (pc + 1) pl (.int (nI (a % b)) :: st)) : fx_J X ws pc pl (.int (nI b) :: .int (nI a) :: st) := jr_irem C hd (nI_ne0 h0 hb) (by rw [pk_rem ha h0 hb]; exact k)
theorem jr_idivN {a b : Nat} (C : fx_C X l rm D cl tys cc Ts own) (hd : decode cc pc = .ok (.idiv, 1)) (ha : a < 2 ^ 31) (h0 : 0 < b) (hb : b < 2 ^ 31) (k : fx_J X ws (pc + 1) pl (.int (nI (a / b)) :: st)) : fx_J X ws pc pl (.int (nI b) :: .int (nI a) :: st) := jr_idiv C hd (nI_ne0 h0 hb) (by rw [pk_div ha h0 hb]; exact k)
theorem jr_if_eq {x : Int32} {off : Int} {tgt : Nat} (C : fx_C X l rm D cl tys cc Ts own) (hd : decode cc pc = .ok (.ifCond .eq off, 3)) (ht : (pc : Int) + off = (tgt : Int)) (kt : x = 0 → fx_J X ws tgt pl st) (kf : ¬ x = 0 → fx_J X ws (pc + 3) pl st) : fx_J X ws pc pl (.int x :: st) := fun H locs ls hP hD hS hl => lv_if_eq C.1 C.2.1 hd ht (fun q => kt q H locs ls hP hD hS hl) (fun q => kf q H locs ls hP hD hS hl)
theorem jr_icmp_eq {x y : Int32} {off : Int} {tgt : Nat} (C : fx_C X l rm D cl tys cc Ts own) (hd : decode cc pc = .ok (.if_icmp .eq off, 3)) (ht : (pc : Int) + off = (tgt : Int)) (kt : x = y → fx_J X ws tgt pl st) (kf : ¬ x = y → fx_J X ws (pc + 3) pl st) : fx_J X ws pc pl (.int y :: .int x :: st) := fun H locs ls hP hD hS hl => lv_icmp_eq C.1 C.2.1 hd ht (fun q => kt q H locs ls hP hD hS hl) (fun q => kf q H locs ls hP hD hS hl)
theorem jr_if_ne {x : Int32} {off : Int} {tgt : Nat} (C : fx_C X l rm D cl tys cc Ts own) (hd : decode cc pc = .ok (.ifCond .ne off, 3)) (ht : (pc : Int) + off = (tgt : Int)) (kt : ¬ x = 0 → fx_J X ws tgt pl st) (kf : x = 0 → fx_J X ws (pc + 3) pl st) : fx_J X ws pc pl (.int x :: st) := fun H locs ls hP hD hS hl => lv_if_ne C.1 C.2.1 hd ht (fun q => kt q H locs ls hP hD hS hl) (fun q => kf q H locs ls hP hD hS hl)
theorem jr_icmp_ne {x y : Int32} {off : Int} {tgt : Nat} (C : fx_C X l rm D cl tys cc Ts own) (hd : decode cc pc = .ok (.if_icmp .ne off, 3)) (ht : (pc : Int) + off = (tgt : Int)) (kt : ¬ x = y → fx_J X ws tgt pl st) (kf : x = y → fx_J X ws (pc + 3) pl st) : fx_J X ws pc pl (.int y :: .int x :: st) := fun H locs ls hP hD hS hl => lv_icmp_ne C.1 C.2.1 hd ht (fun q => kt q H locs ls hP hD hS hl) (fun q => kf q H locs ls hP hD hS hl)
theorem jr_if_lt {x : Int32} {off : Int} {tgt : Nat} (C : fx_C X l rm D cl tys cc Ts own) (hd : decode cc pc = .ok (.ifCond .lt off, 3)) (ht : (pc : Int) + off = (tgt : Int)) (kt : x < 0 → fx_J X ws tgt pl st) (kf : ¬ x < 0 → fx_J X ws (pc + 3) pl st) : fx_J X ws pc pl (.int x :: st) := fun H locs ls hP hD hS hl => lv_if_lt C.1 C.2.1 hd ht (fun q => kt q H locs ls hP hD hS hl) (fun q => kf q H locs ls hP hD hS hl)
theorem jr_icmp_lt {x y : Int32} {off : Int} {tgt : Nat} (C : fx_C X l rm D cl tys cc Ts own) (hd : decode cc pc = .ok (.if_icmp .lt off, 3)) (ht : (pc : Int) + off = (tgt : Int)) (kt : x < y → fx_J X ws tgt pl st) (kf : ¬ x < y → fx_J X ws (pc + 3) pl st) : fx_J X ws pc pl (.int y :: .int x :: st) := fun H locs ls hP hD hS hl => lv_icmp_lt C.1 C.2.1 hd ht (fun q => kt q H locs ls hP hD hS hl) (fun q => kf q H locs ls hP hD hS hl)
theorem jr_if_ge {x : Int32} {off : Int} {tgt : Nat} (C : fx_C X l rm D cl tys cc Ts own) (hd : decode cc pc = .ok (.ifCond .ge off, 3)) (ht : (pc : Int) + off = (tgt : Int)) (kt : 0 ≤ x → fx_J X ws tgt pl st) (kf : ¬ 0 ≤ x → fx_J X ws (pc + 3) pl st) : fx_J X ws pc pl (.int x :: st) := fun H locs ls hP hD hS hl => lv_if_ge C.1 C.2.1 hd ht (fun q => kt q H locs ls hP hD hS hl) (fun q => kf q H locs ls hP hD hS hl)
theorem jr_icmp_ge {x y : Int32} {off : Int} {tgt : Nat} (C : fx_C X l rm D cl tys cc Ts own) (hd : decode cc pc = .ok (.if_icmp .ge off, 3)) (ht : (pc : Int) + off = (tgt : Int)) (kt : y ≤ x → fx_J X ws tgt pl st) (kf : ¬ y ≤ x → fx_J X ws (pc + 3) pl st) : fx_J X ws pc pl (.int y :: .int x :: st) := fun H locs ls hP hD hS hl => lv_icmp_ge C.1 C.2.1 hd ht (fun q => kt q H locs ls hP hD hS hl) (fun q => kf q H locs ls hP hD hS hl)
theorem jr_if_gt {x : Int32} {off : Int} {tgt : Nat} (C : fx_C X l rm D cl tys cc Ts own) (hd : decode cc pc = .ok (.ifCond .gt off, 3)) (ht : (pc : Int) + off = (tgt : Int)) (kt : 0 < x → fx_J X ws tgt pl st) (kf : ¬ 0 < x → fx_J X ws (pc + 3) pl st) : fx_J X ws pc pl (.int x :: st) := fun H locs ls hP hD hS hl => lv_if_gt C.1 C.2.1 hd ht (fun q => kt q H locs ls hP hD hS hl) (fun q => kf q H locs ls hP hD hS hl)
theorem jr_icmp_gt {x y : Int32} {off : Int} {tgt : Nat} (C : fx_C X l rm D cl tys cc Ts own) (hd : decode cc pc = .ok (.if_icmp .gt off, 3)) (ht : (pc : Int) + off = (tgt : Int)) (kt : y < x → fx_J X ws tgt pl st) (kf : ¬ y < x → fx_J X ws (pc + 3) pl st) : fx_J X ws pc pl (.int y :: .int x :: st) := fun H locs ls hP hD hS hl => lv_icmp_gt C.1 C.2.1 hd ht (fun q => kt q H locs ls hP hD hS hl) (fun q => kf q H locs ls hP hD hS hl)
theorem jr_if_le {x : Int32} {off : Int} {tgt : Nat} (C : fx_C X l rm D cl tys cc Ts own) (hd : decode cc pc = .ok (.ifCond .le off, 3)) (ht : (pc : Int) + off = (tgt : Int)) (kt : x ≤ 0 → fx_J X ws tgt pl st) (kf : ¬ x ≤ 0 → fx_J X ws (pc + 3) pl st) : fx_J X ws pc pl (.int x :: st) := fun H locs ls hP hD hS hl => lv_if_le C.1 C.2.1 hd ht (fun q => kt q H locs ls hP hD hS hl) (fun q => kf q H locs ls hP hD hS hl)
theorem jr_icmp_le {x y : Int32} {off : Int} {tgt : Nat} (C : fx_C X l rm D cl tys cc Ts own) (hd : decode cc pc = .ok (.if_icmp .le off, 3)) (ht : (pc : Int) + off = (tgt : Int)) (kt : x ≤ y → fx_J X ws tgt pl st) (kf : ¬ x ≤ y → fx_J X ws (pc + 3) pl st) : fx_J X ws pc pl (.int y :: .int x :: st) := fun H locs ls hP hD hS hl => lv_icmp_le C.1 C.2.1 hd ht (fun q => kt q H locs ls hP hD hS hl) (fun q => kf q H locs ls hP hD hS hl)
theorem jr_N_eq {a b : Nat} {off : Int} {tgt : Nat} (C : fx_C X l rm D cl tys cc Ts own) (hd : decode cc pc = .ok (.if_icmp .eq off, 3)) (ht : (pc : Int) + off = (tgt : Int)) (ha : a < 2 ^ 31) (hb : b < 2 ^ 31) (kt : a = b → fx_J X ws tgt pl st) (kf : ¬ a = b → fx_J X ws (pc + 3) pl st) : fx_J X ws pc pl (.int (nI b) :: .int (nI a) :: st) := jr_icmp_eq C hd ht (fun q => kt ((nI_eq ha hb).mp q)) (fun q => kf (fun z => q ((nI_eq ha hb).mpr z)))
theorem jr_N_ne {a b : Nat} {off : Int} {tgt : Nat} (C : fx_C X l rm D cl tys cc Ts own) (hd : decode cc pc = .ok (.if_icmp .ne off, 3)) (ht : (pc : Int) + off = (tgt : Int)) (ha : a < 2 ^ 31) (hb : b < 2 ^ 31) (kt : ¬ a = b → fx_J X ws tgt pl st) (kf : a = b → fx_J X ws (pc + 3) pl st) : fx_J X ws pc pl (.int (nI b) :: .int (nI a) :: st) := jr_icmp_ne C hd ht (fun q => kt (fun z => q ((nI_eq ha hb).mpr z))) (fun q => kf ((nI_eq ha hb).mp q))
theorem jr_N_lt {a b : Nat} {off : Int} {tgt : Nat} (C : fx_C X l rm D cl tys cc Ts own) (hd : decode cc pc = .ok (.if_icmp .lt off, 3)) (ht : (pc : Int) + off = (tgt : Int)) (ha : a < 2 ^ 31) (hb : b < 2 ^ 31) (kt : a < b → fx_J X ws tgt pl st) (kf : b ≤ a → fx_J X ws (pc + 3) pl st) : fx_J X ws pc pl (.int (nI b) :: .int (nI a) :: st) := jr_icmp_lt C hd ht (fun q => kt ((nI_ltI ha hb).mp q)) (fun q => kf (Nat.not_lt.mp (fun h => q ((nI_ltI ha hb).mpr h))))
theorem jr_N_ge {a b : Nat} {off : Int} {tgt : Nat} (C : fx_C X l rm D cl tys cc Ts own) (hd : decode cc pc = .ok (.if_icmp .ge off, 3)) (ht : (pc : Int) + off = (tgt : Int)) (ha : a < 2 ^ 31) (hb : b < 2 ^ 31) (kt : b ≤ a → fx_J X ws tgt pl st) (kf : a < b → fx_J X ws (pc + 3) pl st) : fx_J X ws pc pl (.int (nI b) :: .int (nI a) :: st) := jr_icmp_ge C hd ht (fun q => kt ((nI_leI hb ha).mp q)) (fun q => kf (Nat.not_le.mp (fun h => q ((nI_leI hb ha).mpr h))))
theorem jr_N_gt {a b : Nat} {off : Int} {tgt : Nat} (C : fx_C X l rm D cl tys cc Ts own) (hd : decode cc pc = .ok (.if_icmp .gt off, 3)) (ht : (pc : Int) + off = (tgt : Int)) (ha : a < 2 ^ 31) (hb : b < 2 ^ 31) (kt : b < a → fx_J X ws tgt pl st) (kf : a ≤ b → fx_J X ws (pc + 3) pl st) : fx_J X ws pc pl (.int (nI b) :: .int (nI a) :: st) := jr_icmp_gt C hd ht (fun q => kt ((nI_ltI hb ha).mp q)) (fun q => kf (Nat.not_lt.mp (fun h => q ((nI_ltI hb ha).mpr h))))
theorem jr_N_le {a b : Nat} {off : Int} {tgt : Nat} (C : fx_C X l rm D cl tys cc Ts own) (hd : decode cc pc = .ok (.if_icmp .le off, 3)) (ht : (pc : Int) + off = (tgt : Int)) (ha : a < 2 ^ 31) (hb : b < 2 ^ 31) (kt : a ≤ b → fx_J X ws tgt pl st) (kf : b < a → fx_J X ws (pc + 3) pl st) : fx_J X ws pc pl (.int (nI b) :: .int (nI a) :: st) := jr_icmp_le C hd ht (fun q => kt ((nI_leI ha hb).mp q)) (fun q => kf (Nat.not_le.mp (fun h => q ((nI_leI ha hb).mpr h))))
theorem jr_topi {x : Int32} (k : ∀ y : Int32, y = x → fx_J X ws pc pl (.int y :: st)) : fx_J X ws pc pl (.int x :: st) := k x rfl
theorem jr_topl {x : Int64} (k : ∀ y : Int64, y = x → fx_J X ws pc pl (.long y :: st)) : fx_J X ws pc pl (.long x :: st) := k x rfl
theorem jr_goto {off : Int} {tgt : Nat} (C : fx_C X l rm D cl tys cc Ts own) (hd : decode cc pc = .ok (.goto off, 3)) (ht : (pc : Int) + off = (tgt : Int)) (k : fx_J X ws tgt pl st) : fx_J X ws pc pl st := fun H locs ls hP hD hS hl => lv_goto C.1 C.2.1 hd ht (k H locs ls hP hD hS hl)
theorem jr_ldc2 {index : Nat} {v : Int64} (C : fx_C X l rm D cl tys cc Ts own) (hd : decode cc pc = .ok (.ldc2_w index, 3)) (hc : Cond.constantLong own index v ∈ Ts) (k : fx_J X ws (pc + 3) pl (.long v :: st)) : fx_J X ws pc pl st := fun H locs ls hP hD hS hl => lv_ldc2 C.1 C.2.1 C.2.2.2.1 (C.2.2.2.2.1 _ hc) hd (k H locs ls hP hD hS hl)
theorem jr_iloadG_n {k : Fin 4} {x : Int32} (C : fx_C X l rm D cl tys cc Ts own) (hd : decode cc pc = .ok (.iload_n k, 1)) (hv : pl[(k : Nat)]? = some (some (.int x))) (kk : fx_J X ws (pc + 1) pl (.int x :: st)) : fx_J X ws pc pl st := fun H locs ls hP hD hS hl => lv_iload_n C.1 C.2.1 hd rfl (hl.at hv) (kk H locs ls hP hD hS hl)
theorem jr_iloadG {i : Nat} {x : Int32} (C : fx_C X l rm D cl tys cc Ts own) (hd : decode cc pc = .ok (.iload i, 2)) (hv : pl[i]? = some (some (.int x))) (kk : fx_J X ws (pc + 2) pl (.int x :: st)) : fx_J X ws pc pl st := fun H locs ls hP hD hS hl => lv_iload C.1 C.2.1 hd (hl.at hv) (kk H locs ls hP hD hS hl)
theorem jr_istoreG_n {k : Fin 4} {i : Nat} {x : Int32} {pl2 : List (Option Value)} (C : fx_C X l rm D cl tys cc Ts own) (hd : decode cc pc = .ok (.istore_n k, 1)) (hk : (k : Nat) = i) (hi : i < pl.length) (hp : fx_pr pl i = true) (hs : pl.set i (some (.int x)) = pl2) (kk : fx_J X ws (pc + 1) pl2 st) : fx_J X ws pc pl (.int x :: st) := fun H locs ls hP hD hS hl => lv_istore_n C.1 C.2.1 hd hk hl.2 (hl.lt hi) rfl (fun ls2 h2 => kk H locs ls2 hP hD hS (by rw [← hs]; exact fx_st1 hl hp h2))
theorem jr_istoreG {i : Nat} {x : Int32} {pl2 : List (Option Value)} (C : fx_C X l rm D cl tys cc Ts own) (hd : decode cc pc = .ok (.istore i, 2)) (hi : i < pl.length) (hp : fx_pr pl i = true) (hs : pl.set i (some (.int x)) = pl2) (kk : fx_J X ws (pc + 2) pl2 st) : fx_J X ws pc pl (.int x :: st) := fun H locs ls hP hD hS hl => lv_istore C.1 C.2.1 hd hl.2 (hl.lt hi) rfl (fun ls2 h2 => kk H locs ls2 hP hD hS (by rw [← hs]; exact fx_st1 hl hp h2))
theorem jr_lloadG_n {k : Fin 4} {x : Int64} (C : fx_C X l rm D cl tys cc Ts own) (hd : decode cc pc = .ok (.lload_n k, 1)) (hv : pl[(k : Nat)]? = some (some (.long x))) (kk : fx_J X ws (pc + 1) pl (.long x :: st)) : fx_J X ws pc pl st := fun H locs ls hP hD hS hl => lv_lload_n C.1 C.2.1 hd rfl (hl.at hv) (kk H locs ls hP hD hS hl)
theorem jr_lloadG {i : Nat} {x : Int64} (C : fx_C X l rm D cl tys cc Ts own) (hd : decode cc pc = .ok (.lload i, 2)) (hv : pl[i]? = some (some (.long x))) (kk : fx_J X ws (pc + 2) pl (.long x :: st)) : fx_J X ws pc pl st := fun H locs ls hP hD hS hl => lv_lload C.1 C.2.1 hd (hl.at hv) (kk H locs ls hP hD hS hl)
theorem jr_lstoreG_n {k : Fin 4} {i : Nat} {x : Int64} {pl2 : List (Option Value)} (C : fx_C X l rm D cl tys cc Ts own) (hd : decode cc pc = .ok (.lstore_n k, 1)) (hk : (k : Nat) = i) (hi : i + 1 < pl.length) (hp : fx_pr pl i = true) (hs : (pl.set i (some (.long x))).set (i + 1) none = pl2) (kk : fx_J X ws (pc + 1) pl2 st) : fx_J X ws pc pl (.long x :: st) := fun H locs ls hP hD hS hl => lv_lstore_n C.1 C.2.1 hd hk hl.2 (hl.lt hi) rfl (fun ls2 h2 => kk H locs ls2 hP hD hS (by rw [← hs]; exact fx_st2 hl hp h2))
theorem jr_lstoreG {i : Nat} {x : Int64} {pl2 : List (Option Value)} (C : fx_C X l rm D cl tys cc Ts own) (hd : decode cc pc = .ok (.lstore i, 2)) (hi : i + 1 < pl.length) (hp : fx_pr pl i = true) (hs : (pl.set i (some (.long x))).set (i + 1) none = pl2) (kk : fx_J X ws (pc + 2) pl2 st) : fx_J X ws pc pl (.long x :: st) := fun H locs ls hP hD hS hl => lv_lstore C.1 C.2.1 hd hl.2 (hl.lt hi) rfl (fun ls2 h2 => kk H locs ls2 hP hD hS (by rw [← hs]; exact fx_st2 hl hp h2))
theorem jr_aloadG_n {k : Fin 4} {x : Nat} (C : fx_C X l rm D cl tys cc Ts own) (hd : decode cc pc = .ok (.aload_n k, 1)) (hv : pl[(k : Nat)]? = some (some (.ref x))) (kk : fx_J X ws (pc + 1) pl (.ref x :: st)) : fx_J X ws pc pl st := fun H locs ls hP hD hS hl => lv_aload_n C.1 C.2.1 hd rfl (hl.at hv) (kk H locs ls hP hD hS hl)
theorem jr_aloadG {i : Nat} {x : Nat} (C : fx_C X l rm D cl tys cc Ts own) (hd : decode cc pc = .ok (.aload i, 2)) (hv : pl[i]? = some (some (.ref x))) (kk : fx_J X ws (pc + 2) pl (.ref x :: st)) : fx_J X ws pc pl st := fun H locs ls hP hD hS hl => lv_aload C.1 C.2.1 hd (hl.at hv) (kk H locs ls hP hD hS hl)
theorem jr_astoreG_n {k : Fin 4} {i : Nat} {x : Nat} {pl2 : List (Option Value)} (C : fx_C X l rm D cl tys cc Ts own) (hd : decode cc pc = .ok (.astore_n k, 1)) (hk : (k : Nat) = i) (hi : i < pl.length) (hp : fx_pr pl i = true) (hs : pl.set i (some (.ref x)) = pl2) (kk : fx_J X ws (pc + 1) pl2 st) : fx_J X ws pc pl (.ref x :: st) := fun H locs ls hP hD hS hl => lv_astore_n C.1 C.2.1 hd hk hl.2 (hl.lt hi) rfl (fun ls2 h2 => kk H locs ls2 hP hD hS (by rw [← hs]; exact fx_st1 hl hp h2))
theorem jr_astoreG {i : Nat} {x : Nat} {pl2 : List (Option Value)} (C : fx_C X l rm D cl tys cc Ts own) (hd : decode cc pc = .ok (.astore i, 2)) (hi : i < pl.length) (hp : fx_pr pl i = true) (hs : pl.set i (some (.ref x)) = pl2) (kk : fx_J X ws (pc + 2) pl2 st) : fx_J X ws pc pl (.ref x :: st) := fun H locs ls hP hD hS hl => lv_astore C.1 C.2.1 hd hl.2 (hl.lt hi) rfl (fun ls2 h2 => kk H locs ls2 hP hD hS (by rw [← hs]; exact fx_st1 hl hp h2))
theorem fx_find {pl : List (Option Value)} {i : Nat} {v : Value} (h : pl[i]? = some (some v)) : ∃ k : Nat, (fx_fl 0 pl)[k]? = some (i, v) := List.getElem?_of_mem ((fx_fl_mem pl 0 i v).mpr ⟨i, h, by omega⟩)
theorem jr_iincG {i : Nat} {n : Int} {x v : Int32} {pl2 : List (Option Value)} (C : fx_C X l rm D cl tys cc Ts own) (hd : decode cc pc = .ok (.iinc i n, 3)) (hx : pl[i]? = some (some (.int x))) (hv : x + Int32.ofInt n = v) (hp : fx_pr pl i = true) (hs : pl.set i (some (.int v)) = pl2) (kk : fx_J X ws (pc + 3) pl2 st) : fx_J X ws pc pl st := by
  intro H locs ls hP hD hS hl
  obtain ⟨k, hk⟩ := fx_find hx
  exact lv_iinc C.1 C.2.1 hd hl.2 hk hv (hl.lt (List.getElem?_eq_some_iff.mp hx).1) rfl (fun ls2 h2 => kk H locs ls2 hP hD hS (by rw [← hs]; exact fx_st1 hl hp h2))
theorem jr_iload_0 {r : List (Option Value)} {x : Int32} (C : fx_C X l rm D cl tys cc Ts own) (hd : decode cc pc = .ok (.iload_n 0, 1)) (kk : fx_J X ws (pc + 1) (some (.int x) :: r) (.int x :: st)) : fx_J X ws pc (some (.int x) :: r) st := jr_iloadG_n C hd rfl kk
theorem jr_istore_0 {a0 : Option Value} {r : List (Option Value)} {x : Int32} (C : fx_C X l rm D cl tys cc Ts own) (hd : decode cc pc = .ok (.istore_n 0, 1)) (kk : fx_J X ws (pc + 1) (some (.int x) :: r) st) : fx_J X ws pc (a0 :: r) (.int x :: st) := jr_istoreG_n (i := 0) C hd rfl (by simp only [List.length_cons]; omega) rfl rfl kk
theorem jr_lload_0 {r : List (Option Value)} {x : Int64} (C : fx_C X l rm D cl tys cc Ts own) (hd : decode cc pc = .ok (.lload_n 0, 1)) (kk : fx_J X ws (pc + 1) (some (.long x) :: r) (.long x :: st)) : fx_J X ws pc (some (.long x) :: r) st := jr_lloadG_n C hd rfl kk
theorem jr_lstore_0 {a0 b0 : Option Value} {r : List (Option Value)} {x : Int64} (C : fx_C X l rm D cl tys cc Ts own) (hd : decode cc pc = .ok (.lstore_n 0, 1)) (kk : fx_J X ws (pc + 1) (some (.long x) :: none :: r) st) : fx_J X ws pc (a0 :: b0 :: r) (.long x :: st) := jr_lstoreG_n (i := 0) C hd rfl (by simp only [List.length_cons]; omega) rfl rfl kk
theorem jr_aload_0 {r : List (Option Value)} {x : Nat} (C : fx_C X l rm D cl tys cc Ts own) (hd : decode cc pc = .ok (.aload_n 0, 1)) (kk : fx_J X ws (pc + 1) (some (.ref x) :: r) (.ref x :: st)) : fx_J X ws pc (some (.ref x) :: r) st := jr_aloadG_n C hd rfl kk
theorem jr_astore_0 {a0 : Option Value} {r : List (Option Value)} {x : Nat} (C : fx_C X l rm D cl tys cc Ts own) (hd : decode cc pc = .ok (.astore_n 0, 1)) (kk : fx_J X ws (pc + 1) (some (.ref x) :: r) st) : fx_J X ws pc (a0 :: r) (.ref x :: st) := jr_astoreG_n (i := 0) C hd rfl (by simp only [List.length_cons]; omega) rfl rfl kk
theorem jr_iinc_0 {r : List (Option Value)} {n : Int} {x v : Int32} (C : fx_C X l rm D cl tys cc Ts own) (hd : decode cc pc = .ok (.iinc 0 n, 3)) (hv : x + Int32.ofInt n = v) (kk : fx_J X ws (pc + 3) (some (.int v) :: r) st) : fx_J X ws pc (some (.int x) :: r) st := jr_iincG C hd rfl hv rfl rfl kk
theorem jr_incN_0 {r : List (Option Value)} {a : Nat} (C : fx_C X l rm D cl tys cc Ts own) (hd : decode cc pc = .ok (.iinc 0 1, 3)) (kk : fx_J X ws (pc + 3) (some (.int (nI (a + 1))) :: r) st) : fx_J X ws pc (some (.int (nI a)) :: r) st := jr_iincG C hd rfl (nI_1 a) rfl rfl kk
theorem jr_decN_0 {r : List (Option Value)} {a : Nat} (C : fx_C X l rm D cl tys cc Ts own) (hd : decode cc pc = .ok (.iinc 0 (-1), 3)) (kk : fx_J X ws (pc + 3) (some (.int (nI a)) :: r) st) : fx_J X ws pc (some (.int (nI (a + 1))) :: r) st := jr_iincG C hd rfl (pk_m1 a) rfl rfl kk
theorem jr_iload_1 {a0 : Option Value} {r : List (Option Value)} {x : Int32} (C : fx_C X l rm D cl tys cc Ts own) (hd : decode cc pc = .ok (.iload_n 1, 1)) (kk : fx_J X ws (pc + 1) (a0 :: some (.int x) :: r) (.int x :: st)) : fx_J X ws pc (a0 :: some (.int x) :: r) st := jr_iloadG_n C hd rfl kk
theorem jr_istore_1 {a0 : Option Value} {a1 : Option Value} {r : List (Option Value)} {x : Int32} (C : fx_C X l rm D cl tys cc Ts own) (hd : decode cc pc = .ok (.istore_n 1, 1)) (hp : fx_c1 a0 = true) (kk : fx_J X ws (pc + 1) (a0 :: some (.int x) :: r) st) : fx_J X ws pc (a0 :: a1 :: r) (.int x :: st) := jr_istoreG_n (i := 1) C hd rfl (by simp only [List.length_cons]; omega) hp rfl kk
theorem jr_lload_1 {a0 : Option Value} {r : List (Option Value)} {x : Int64} (C : fx_C X l rm D cl tys cc Ts own) (hd : decode cc pc = .ok (.lload_n 1, 1)) (kk : fx_J X ws (pc + 1) (a0 :: some (.long x) :: r) (.long x :: st)) : fx_J X ws pc (a0 :: some (.long x) :: r) st := jr_lloadG_n C hd rfl kk
theorem jr_lstore_1 {a0 : Option Value} {a1 b1 : Option Value} {r : List (Option Value)} {x : Int64} (C : fx_C X l rm D cl tys cc Ts own) (hd : decode cc pc = .ok (.lstore_n 1, 1)) (hp : fx_c1 a0 = true) (kk : fx_J X ws (pc + 1) (a0 :: some (.long x) :: none :: r) st) : fx_J X ws pc (a0 :: a1 :: b1 :: r) (.long x :: st) := jr_lstoreG_n (i := 1) C hd rfl (by simp only [List.length_cons]; omega) hp rfl kk
theorem jr_aload_1 {a0 : Option Value} {r : List (Option Value)} {x : Nat} (C : fx_C X l rm D cl tys cc Ts own) (hd : decode cc pc = .ok (.aload_n 1, 1)) (kk : fx_J X ws (pc + 1) (a0 :: some (.ref x) :: r) (.ref x :: st)) : fx_J X ws pc (a0 :: some (.ref x) :: r) st := jr_aloadG_n C hd rfl kk
theorem jr_astore_1 {a0 : Option Value} {a1 : Option Value} {r : List (Option Value)} {x : Nat} (C : fx_C X l rm D cl tys cc Ts own) (hd : decode cc pc = .ok (.astore_n 1, 1)) (hp : fx_c1 a0 = true) (kk : fx_J X ws (pc + 1) (a0 :: some (.ref x) :: r) st) : fx_J X ws pc (a0 :: a1 :: r) (.ref x :: st) := jr_astoreG_n (i := 1) C hd rfl (by simp only [List.length_cons]; omega) hp rfl kk
theorem jr_iinc_1 {a0 : Option Value} {r : List (Option Value)} {n : Int} {x v : Int32} (C : fx_C X l rm D cl tys cc Ts own) (hd : decode cc pc = .ok (.iinc 1 n, 3)) (hv : x + Int32.ofInt n = v) (hp : fx_c1 a0 = true) (kk : fx_J X ws (pc + 3) (a0 :: some (.int v) :: r) st) : fx_J X ws pc (a0 :: some (.int x) :: r) st := jr_iincG C hd rfl hv hp rfl kk
theorem jr_incN_1 {a0 : Option Value} {r : List (Option Value)} {a : Nat} (C : fx_C X l rm D cl tys cc Ts own) (hd : decode cc pc = .ok (.iinc 1 1, 3)) (hp : fx_c1 a0 = true) (kk : fx_J X ws (pc + 3) (a0 :: some (.int (nI (a + 1))) :: r) st) : fx_J X ws pc (a0 :: some (.int (nI a)) :: r) st := jr_iincG C hd rfl (nI_1 a) hp rfl kk
theorem jr_decN_1 {a0 : Option Value} {r : List (Option Value)} {a : Nat} (C : fx_C X l rm D cl tys cc Ts own) (hd : decode cc pc = .ok (.iinc 1 (-1), 3)) (hp : fx_c1 a0 = true) (kk : fx_J X ws (pc + 3) (a0 :: some (.int (nI a)) :: r) st) : fx_J X ws pc (a0 :: some (.int (nI (a + 1))) :: r) st := jr_iincG C hd rfl (pk_m1 a) hp rfl kk
theorem jr_iload_2 {a0 a1 : Option Value} {r : List (Option Value)} {x : Int32} (C : fx_C X l rm D cl tys cc Ts own) (hd : decode cc pc = .ok (.iload_n 2, 1)) (kk : fx_J X ws (pc + 1) (a0 :: a1 :: some (.int x) :: r) (.int x :: st)) : fx_J X ws pc (a0 :: a1 :: some (.int x) :: r) st := jr_iloadG_n C hd rfl kk
theorem jr_istore_2 {a0 a1 : Option Value} {a2 : Option Value} {r : List (Option Value)} {x : Int32} (C : fx_C X l rm D cl tys cc Ts own) (hd : decode cc pc = .ok (.istore_n 2, 1)) (hp : fx_c1 a1 = true) (kk : fx_J X ws (pc + 1) (a0 :: a1 :: some (.int x) :: r) st) : fx_J X ws pc (a0 :: a1 :: a2 :: r) (.int x :: st) := jr_istoreG_n (i := 2) C hd rfl (by simp only [List.length_cons]; omega) hp rfl kk
theorem jr_lload_2 {a0 a1 : Option Value} {r : List (Option Value)} {x : Int64} (C : fx_C X l rm D cl tys cc Ts own) (hd : decode cc pc = .ok (.lload_n 2, 1)) (kk : fx_J X ws (pc + 1) (a0 :: a1 :: some (.long x) :: r) (.long x :: st)) : fx_J X ws pc (a0 :: a1 :: some (.long x) :: r) st := jr_lloadG_n C hd rfl kk
theorem jr_lstore_2 {a0 a1 : Option Value} {a2 b2 : Option Value} {r : List (Option Value)} {x : Int64} (C : fx_C X l rm D cl tys cc Ts own) (hd : decode cc pc = .ok (.lstore_n 2, 1)) (hp : fx_c1 a1 = true) (kk : fx_J X ws (pc + 1) (a0 :: a1 :: some (.long x) :: none :: r) st) : fx_J X ws pc (a0 :: a1 :: a2 :: b2 :: r) (.long x :: st) := jr_lstoreG_n (i := 2) C hd rfl (by simp only [List.length_cons]; omega) hp rfl kk
theorem jr_aload_2 {a0 a1 : Option Value} {r : List (Option Value)} {x : Nat} (C : fx_C X l rm D cl tys cc Ts own) (hd : decode cc pc = .ok (.aload_n 2, 1)) (kk : fx_J X ws (pc + 1) (a0 :: a1 :: some (.ref x) :: r) (.ref x :: st)) : fx_J X ws pc (a0 :: a1 :: some (.ref x) :: r) st := jr_aloadG_n C hd rfl kk
theorem jr_astore_2 {a0 a1 : Option Value} {a2 : Option Value} {r : List (Option Value)} {x : Nat} (C : fx_C X l rm D cl tys cc Ts own) (hd : decode cc pc = .ok (.astore_n 2, 1)) (hp : fx_c1 a1 = true) (kk : fx_J X ws (pc + 1) (a0 :: a1 :: some (.ref x) :: r) st) : fx_J X ws pc (a0 :: a1 :: a2 :: r) (.ref x :: st) := jr_astoreG_n (i := 2) C hd rfl (by simp only [List.length_cons]; omega) hp rfl kk
theorem jr_iinc_2 {a0 a1 : Option Value} {r : List (Option Value)} {n : Int} {x v : Int32} (C : fx_C X l rm D cl tys cc Ts own) (hd : decode cc pc = .ok (.iinc 2 n, 3)) (hv : x + Int32.ofInt n = v) (hp : fx_c1 a1 = true) (kk : fx_J X ws (pc + 3) (a0 :: a1 :: some (.int v) :: r) st) : fx_J X ws pc (a0 :: a1 :: some (.int x) :: r) st := jr_iincG C hd rfl hv hp rfl kk
theorem jr_incN_2 {a0 a1 : Option Value} {r : List (Option Value)} {a : Nat} (C : fx_C X l rm D cl tys cc Ts own) (hd : decode cc pc = .ok (.iinc 2 1, 3)) (hp : fx_c1 a1 = true) (kk : fx_J X ws (pc + 3) (a0 :: a1 :: some (.int (nI (a + 1))) :: r) st) : fx_J X ws pc (a0 :: a1 :: some (.int (nI a)) :: r) st := jr_iincG C hd rfl (nI_1 a) hp rfl kk
theorem jr_decN_2 {a0 a1 : Option Value} {r : List (Option Value)} {a : Nat} (C : fx_C X l rm D cl tys cc Ts own) (hd : decode cc pc = .ok (.iinc 2 (-1), 3)) (hp : fx_c1 a1 = true) (kk : fx_J X ws (pc + 3) (a0 :: a1 :: some (.int (nI a)) :: r) st) : fx_J X ws pc (a0 :: a1 :: some (.int (nI (a + 1))) :: r) st := jr_iincG C hd rfl (pk_m1 a) hp rfl kk
theorem jr_iload_3 {a0 a1 a2 : Option Value} {r : List (Option Value)} {x : Int32} (C : fx_C X l rm D cl tys cc Ts own) (hd : decode cc pc = .ok (.iload_n 3, 1)) (kk : fx_J X ws (pc + 1) (a0 :: a1 :: a2 :: some (.int x) :: r) (.int x :: st)) : fx_J X ws pc (a0 :: a1 :: a2 :: some (.int x) :: r) st := jr_iloadG_n C hd rfl kk
theorem jr_istore_3 {a0 a1 a2 : Option Value} {a3 : Option Value} {r : List (Option Value)} {x : Int32} (C : fx_C X l rm D cl tys cc Ts own) (hd : decode cc pc = .ok (.istore_n 3, 1)) (hp : fx_c1 a2 = true) (kk : fx_J X ws (pc + 1) (a0 :: a1 :: a2 :: some (.int x) :: r) st) : fx_J X ws pc (a0 :: a1 :: a2 :: a3 :: r) (.int x :: st) := jr_istoreG_n (i := 3) C hd rfl (by simp only [List.length_cons]; omega) hp rfl kk
theorem jr_lload_3 {a0 a1 a2 : Option Value} {r : List (Option Value)} {x : Int64} (C : fx_C X l rm D cl tys cc Ts own) (hd : decode cc pc = .ok (.lload_n 3, 1)) (kk : fx_J X ws (pc + 1) (a0 :: a1 :: a2 :: some (.long x) :: r) (.long x :: st)) : fx_J X ws pc (a0 :: a1 :: a2 :: some (.long x) :: r) st := jr_lloadG_n C hd rfl kk
theorem jr_lstore_3 {a0 a1 a2 : Option Value} {a3 b3 : Option Value} {r : List (Option Value)} {x : Int64} (C : fx_C X l rm D cl tys cc Ts own) (hd : decode cc pc = .ok (.lstore_n 3, 1)) (hp : fx_c1 a2 = true) (kk : fx_J X ws (pc + 1) (a0 :: a1 :: a2 :: some (.long x) :: none :: r) st) : fx_J X ws pc (a0 :: a1 :: a2 :: a3 :: b3 :: r) (.long x :: st) := jr_lstoreG_n (i := 3) C hd rfl (by simp only [List.length_cons]; omega) hp rfl kk
theorem jr_aload_3 {a0 a1 a2 : Option Value} {r : List (Option Value)} {x : Nat} (C : fx_C X l rm D cl tys cc Ts own) (hd : decode cc pc = .ok (.aload_n 3, 1)) (kk : fx_J X ws (pc + 1) (a0 :: a1 :: a2 :: some (.ref x) :: r) (.ref x :: st)) : fx_J X ws pc (a0 :: a1 :: a2 :: some (.ref x) :: r) st := jr_aloadG_n C hd rfl kk
theorem jr_astore_3 {a0 a1 a2 : Option Value} {a3 : Option Value} {r : List (Option Value)} {x : Nat} (C : fx_C X l rm D cl tys cc Ts own) (hd : decode cc pc = .ok (.astore_n 3, 1)) (hp : fx_c1 a2 = true) (kk : fx_J X ws (pc + 1) (a0 :: a1 :: a2 :: some (.ref x) :: r) st) : fx_J X ws pc (a0 :: a1 :: a2 :: a3 :: r) (.ref x :: st) := jr_astoreG_n (i := 3) C hd rfl (by simp only [List.length_cons]; omega) hp rfl kk
theorem jr_iinc_3 {a0 a1 a2 : Option Value} {r : List (Option Value)} {n : Int} {x v : Int32} (C : fx_C X l rm D cl tys cc Ts own) (hd : decode cc pc = .ok (.iinc 3 n, 3)) (hv : x + Int32.ofInt n = v) (hp : fx_c1 a2 = true) (kk : fx_J X ws (pc + 3) (a0 :: a1 :: a2 :: some (.int v) :: r) st) : fx_J X ws pc (a0 :: a1 :: a2 :: some (.int x) :: r) st := jr_iincG C hd rfl hv hp rfl kk
theorem jr_incN_3 {a0 a1 a2 : Option Value} {r : List (Option Value)} {a : Nat} (C : fx_C X l rm D cl tys cc Ts own) (hd : decode cc pc = .ok (.iinc 3 1, 3)) (hp : fx_c1 a2 = true) (kk : fx_J X ws (pc + 3) (a0 :: a1 :: a2 :: some (.int (nI (a + 1))) :: r) st) : fx_J X ws pc (a0 :: a1 :: a2 :: some (.int (nI a)) :: r) st := jr_iincG C hd rfl (nI_1 a) hp rfl kk
theorem jr_decN_3 {a0 a1 a2 : Option Value} {r : List (Option Value)} {a : Nat} (C : fx_C X l rm D cl tys cc Ts own) (hd : decode cc pc = .ok (.iinc 3 (-1), 3)) (hp : fx_c1 a2 = true) (kk : fx_J X ws (pc + 3) (a0 :: a1 :: a2 :: some (.int (nI a)) :: r) st) : fx_J X ws pc (a0 :: a1 :: a2 :: some (.int (nI (a + 1))) :: r) st := jr_iincG C hd rfl (pk_m1 a) hp rfl kk
theorem jr_iload_4 {a0 a1 a2 a3 : Option Value} {r : List (Option Value)} {x : Int32} (C : fx_C X l rm D cl tys cc Ts own) (hd : decode cc pc = .ok (.iload 4, 2)) (kk : fx_J X ws (pc + 2) (a0 :: a1 :: a2 :: a3 :: some (.int x) :: r) (.int x :: st)) : fx_J X ws pc (a0 :: a1 :: a2 :: a3 :: some (.int x) :: r) st := jr_iloadG C hd rfl kk
theorem jr_istore_4 {a0 a1 a2 a3 : Option Value} {a4 : Option Value} {r : List (Option Value)} {x : Int32} (C : fx_C X l rm D cl tys cc Ts own) (hd : decode cc pc = .ok (.istore 4, 2)) (hp : fx_c1 a3 = true) (kk : fx_J X ws (pc + 2) (a0 :: a1 :: a2 :: a3 :: some (.int x) :: r) st) : fx_J X ws pc (a0 :: a1 :: a2 :: a3 :: a4 :: r) (.int x :: st) := jr_istoreG (i := 4) C hd (by simp only [List.length_cons]; omega) hp rfl kk
theorem jr_lload_4 {a0 a1 a2 a3 : Option Value} {r : List (Option Value)} {x : Int64} (C : fx_C X l rm D cl tys cc Ts own) (hd : decode cc pc = .ok (.lload 4, 2)) (kk : fx_J X ws (pc + 2) (a0 :: a1 :: a2 :: a3 :: some (.long x) :: r) (.long x :: st)) : fx_J X ws pc (a0 :: a1 :: a2 :: a3 :: some (.long x) :: r) st := jr_lloadG C hd rfl kk
theorem jr_lstore_4 {a0 a1 a2 a3 : Option Value} {a4 b4 : Option Value} {r : List (Option Value)} {x : Int64} (C : fx_C X l rm D cl tys cc Ts own) (hd : decode cc pc = .ok (.lstore 4, 2)) (hp : fx_c1 a3 = true) (kk : fx_J X ws (pc + 2) (a0 :: a1 :: a2 :: a3 :: some (.long x) :: none :: r) st) : fx_J X ws pc (a0 :: a1 :: a2 :: a3 :: a4 :: b4 :: r) (.long x :: st) := jr_lstoreG (i := 4) C hd (by simp only [List.length_cons]; omega) hp rfl kk
theorem jr_aload_4 {a0 a1 a2 a3 : Option Value} {r : List (Option Value)} {x : Nat} (C : fx_C X l rm D cl tys cc Ts own) (hd : decode cc pc = .ok (.aload 4, 2)) (kk : fx_J X ws (pc + 2) (a0 :: a1 :: a2 :: a3 :: some (.ref x) :: r) (.ref x :: st)) : fx_J X ws pc (a0 :: a1 :: a2 :: a3 :: some (.ref x) :: r) st := jr_aloadG C hd rfl kk
theorem jr_astore_4 {a0 a1 a2 a3 : Option Value} {a4 : Option Value} {r : List (Option Value)} {x : Nat} (C : fx_C X l rm D cl tys cc Ts own) (hd : decode cc pc = .ok (.astore 4, 2)) (hp : fx_c1 a3 = true) (kk : fx_J X ws (pc + 2) (a0 :: a1 :: a2 :: a3 :: some (.ref x) :: r) st) : fx_J X ws pc (a0 :: a1 :: a2 :: a3 :: a4 :: r) (.ref x :: st) := jr_astoreG (i := 4) C hd (by simp only [List.length_cons]; omega) hp rfl kk
theorem jr_iinc_4 {a0 a1 a2 a3 : Option Value} {r : List (Option Value)} {n : Int} {x v : Int32} (C : fx_C X l rm D cl tys cc Ts own) (hd : decode cc pc = .ok (.iinc 4 n, 3)) (hv : x + Int32.ofInt n = v) (hp : fx_c1 a3 = true) (kk : fx_J X ws (pc + 3) (a0 :: a1 :: a2 :: a3 :: some (.int v) :: r) st) : fx_J X ws pc (a0 :: a1 :: a2 :: a3 :: some (.int x) :: r) st := jr_iincG C hd rfl hv hp rfl kk
theorem jr_incN_4 {a0 a1 a2 a3 : Option Value} {r : List (Option Value)} {a : Nat} (C : fx_C X l rm D cl tys cc Ts own) (hd : decode cc pc = .ok (.iinc 4 1, 3)) (hp : fx_c1 a3 = true) (kk : fx_J X ws (pc + 3) (a0 :: a1 :: a2 :: a3 :: some (.int (nI (a + 1))) :: r) st) : fx_J X ws pc (a0 :: a1 :: a2 :: a3 :: some (.int (nI a)) :: r) st := jr_iincG C hd rfl (nI_1 a) hp rfl kk
theorem jr_decN_4 {a0 a1 a2 a3 : Option Value} {r : List (Option Value)} {a : Nat} (C : fx_C X l rm D cl tys cc Ts own) (hd : decode cc pc = .ok (.iinc 4 (-1), 3)) (hp : fx_c1 a3 = true) (kk : fx_J X ws (pc + 3) (a0 :: a1 :: a2 :: a3 :: some (.int (nI a)) :: r) st) : fx_J X ws pc (a0 :: a1 :: a2 :: a3 :: some (.int (nI (a + 1))) :: r) st := jr_iincG C hd rfl (pk_m1 a) hp rfl kk
theorem jr_iload_5 {a0 a1 a2 a3 a4 : Option Value} {r : List (Option Value)} {x : Int32} (C : fx_C X l rm D cl tys cc Ts own) (hd : decode cc pc = .ok (.iload 5, 2)) (kk : fx_J X ws (pc + 2) (a0 :: a1 :: a2 :: a3 :: a4 :: some (.int x) :: r) (.int x :: st)) : fx_J X ws pc (a0 :: a1 :: a2 :: a3 :: a4 :: some (.int x) :: r) st := jr_iloadG C hd rfl kk
theorem jr_istore_5 {a0 a1 a2 a3 a4 : Option Value} {a5 : Option Value} {r : List (Option Value)} {x : Int32} (C : fx_C X l rm D cl tys cc Ts own) (hd : decode cc pc = .ok (.istore 5, 2)) (hp : fx_c1 a4 = true) (kk : fx_J X ws (pc + 2) (a0 :: a1 :: a2 :: a3 :: a4 :: some (.int x) :: r) st) : fx_J X ws pc (a0 :: a1 :: a2 :: a3 :: a4 :: a5 :: r) (.int x :: st) := jr_istoreG (i := 5) C hd (by simp only [List.length_cons]; omega) hp rfl kk
theorem jr_lload_5 {a0 a1 a2 a3 a4 : Option Value} {r : List (Option Value)} {x : Int64} (C : fx_C X l rm D cl tys cc Ts own) (hd : decode cc pc = .ok (.lload 5, 2)) (kk : fx_J X ws (pc + 2) (a0 :: a1 :: a2 :: a3 :: a4 :: some (.long x) :: r) (.long x :: st)) : fx_J X ws pc (a0 :: a1 :: a2 :: a3 :: a4 :: some (.long x) :: r) st := jr_lloadG C hd rfl kk
theorem jr_lstore_5 {a0 a1 a2 a3 a4 : Option Value} {a5 b5 : Option Value} {r : List (Option Value)} {x : Int64} (C : fx_C X l rm D cl tys cc Ts own) (hd : decode cc pc = .ok (.lstore 5, 2)) (hp : fx_c1 a4 = true) (kk : fx_J X ws (pc + 2) (a0 :: a1 :: a2 :: a3 :: a4 :: some (.long x) :: none :: r) st) : fx_J X ws pc (a0 :: a1 :: a2 :: a3 :: a4 :: a5 :: b5 :: r) (.long x :: st) := jr_lstoreG (i := 5) C hd (by simp only [List.length_cons]; omega) hp rfl kk
theorem jr_aload_5 {a0 a1 a2 a3 a4 : Option Value} {r : List (Option Value)} {x : Nat} (C : fx_C X l rm D cl tys cc Ts own) (hd : decode cc pc = .ok (.aload 5, 2)) (kk : fx_J X ws (pc + 2) (a0 :: a1 :: a2 :: a3 :: a4 :: some (.ref x) :: r) (.ref x :: st)) : fx_J X ws pc (a0 :: a1 :: a2 :: a3 :: a4 :: some (.ref x) :: r) st := jr_aloadG C hd rfl kk
theorem jr_astore_5 {a0 a1 a2 a3 a4 : Option Value} {a5 : Option Value} {r : List (Option Value)} {x : Nat} (C : fx_C X l rm D cl tys cc Ts own) (hd : decode cc pc = .ok (.astore 5, 2)) (hp : fx_c1 a4 = true) (kk : fx_J X ws (pc + 2) (a0 :: a1 :: a2 :: a3 :: a4 :: some (.ref x) :: r) st) : fx_J X ws pc (a0 :: a1 :: a2 :: a3 :: a4 :: a5 :: r) (.ref x :: st) := jr_astoreG (i := 5) C hd (by simp only [List.length_cons]; omega) hp rfl kk
theorem jr_iinc_5 {a0 a1 a2 a3 a4 : Option Value} {r : List (Option Value)} {n : Int} {x v : Int32} (C : fx_C X l rm D cl tys cc Ts own) (hd : decode cc pc = .ok (.iinc 5 n, 3)) (hv : x + Int32.ofInt n = v) (hp : fx_c1 a4 = true) (kk : fx_J X ws (pc + 3) (a0 :: a1 :: a2 :: a3 :: a4 :: some (.int v) :: r) st) : fx_J X ws pc (a0 :: a1 :: a2 :: a3 :: a4 :: some (.int x) :: r) st := jr_iincG C hd rfl hv hp rfl kk
theorem jr_incN_5 {a0 a1 a2 a3 a4 : Option Value} {r : List (Option Value)} {a : Nat} (C : fx_C X l rm D cl tys cc Ts own) (hd : decode cc pc = .ok (.iinc 5 1, 3)) (hp : fx_c1 a4 = true) (kk : fx_J X ws (pc + 3) (a0 :: a1 :: a2 :: a3 :: a4 :: some (.int (nI (a + 1))) :: r) st) : fx_J X ws pc (a0 :: a1 :: a2 :: a3 :: a4 :: some (.int (nI a)) :: r) st := jr_iincG C hd rfl (nI_1 a) hp rfl kk
theorem jr_decN_5 {a0 a1 a2 a3 a4 : Option Value} {r : List (Option Value)} {a : Nat} (C : fx_C X l rm D cl tys cc Ts own) (hd : decode cc pc = .ok (.iinc 5 (-1), 3)) (hp : fx_c1 a4 = true) (kk : fx_J X ws (pc + 3) (a0 :: a1 :: a2 :: a3 :: a4 :: some (.int (nI a)) :: r) st) : fx_J X ws pc (a0 :: a1 :: a2 :: a3 :: a4 :: some (.int (nI (a + 1))) :: r) st := jr_iincG C hd rfl (pk_m1 a) hp rfl kk
theorem jr_iload_6 {a0 a1 a2 a3 a4 a5 : Option Value} {r : List (Option Value)} {x : Int32} (C : fx_C X l rm D cl tys cc Ts own) (hd : decode cc pc = .ok (.iload 6, 2)) (kk : fx_J X ws (pc + 2) (a0 :: a1 :: a2 :: a3 :: a4 :: a5 :: some (.int x) :: r) (.int x :: st)) : fx_J X ws pc (a0 :: a1 :: a2 :: a3 :: a4 :: a5 :: some (.int x) :: r) st := jr_iloadG C hd rfl kk
theorem jr_istore_6 {a0 a1 a2 a3 a4 a5 : Option Value} {a6 : Option Value} {r : List (Option Value)} {x : Int32} (C : fx_C X l rm D cl tys cc Ts own) (hd : decode cc pc = .ok (.istore 6, 2)) (hp : fx_c1 a5 = true) (kk : fx_J X ws (pc + 2) (a0 :: a1 :: a2 :: a3 :: a4 :: a5 :: some (.int x) :: r) st) : fx_J X ws pc (a0 :: a1 :: a2 :: a3 :: a4 :: a5 :: a6 :: r) (.int x :: st) := jr_istoreG (i := 6) C hd (by simp only [List.length_cons]; omega) hp rfl kk
theorem jr_lload_6 {a0 a1 a2 a3 a4 a5 : Option Value} {r : List (Option Value)} {x : Int64} (C : fx_C X l rm D cl tys cc Ts own) (hd : decode cc pc = .ok (.lload 6, 2)) (kk : fx_J X ws (pc + 2) (a0 :: a1 :: a2 :: a3 :: a4 :: a5 :: some (.long x) :: r) (.long x :: st)) : fx_J X ws pc (a0 :: a1 :: a2 :: a3 :: a4 :: a5 :: some (.long x) :: r) st := jr_lloadG C hd rfl kk
theorem jr_lstore_6 {a0 a1 a2 a3 a4 a5 : Option Value} {a6 b6 : Option Value} {r : List (Option Value)} {x : Int64} (C : fx_C X l rm D cl tys cc Ts own) (hd : decode cc pc = .ok (.lstore 6, 2)) (hp : fx_c1 a5 = true) (kk : fx_J X ws (pc + 2) (a0 :: a1 :: a2 :: a3 :: a4 :: a5 :: some (.long x) :: none :: r) st) : fx_J X ws pc (a0 :: a1 :: a2 :: a3 :: a4 :: a5 :: a6 :: b6 :: r) (.long x :: st) := jr_lstoreG (i := 6) C hd (by simp only [List.length_cons]; omega) hp rfl kk
theorem jr_aload_6 {a0 a1 a2 a3 a4 a5 : Option Value} {r : List (Option Value)} {x : Nat} (C : fx_C X l rm D cl tys cc Ts own) (hd : decode cc pc = .ok (.aload 6, 2)) (kk : fx_J X ws (pc + 2) (a0 :: a1 :: a2 :: a3 :: a4 :: a5 :: some (.ref x) :: r) (.ref x :: st)) : fx_J X ws pc (a0 :: a1 :: a2 :: a3 :: a4 :: a5 :: some (.ref x) :: r) st := jr_aloadG C hd rfl kk
theorem jr_astore_6 {a0 a1 a2 a3 a4 a5 : Option Value} {a6 : Option Value} {r : List (Option Value)} {x : Nat} (C : fx_C X l rm D cl tys cc Ts own) (hd : decode cc pc = .ok (.astore 6, 2)) (hp : fx_c1 a5 = true) (kk : fx_J X ws (pc + 2) (a0 :: a1 :: a2 :: a3 :: a4 :: a5 :: some (.ref x) :: r) st) : fx_J X ws pc (a0 :: a1 :: a2 :: a3 :: a4 :: a5 :: a6 :: r) (.ref x :: st) := jr_astoreG (i := 6) C hd (by simp only [List.length_cons]; omega) hp rfl kk
theorem jr_iinc_6 {a0 a1 a2 a3 a4 a5 : Option Value} {r : List (Option Value)} {n : Int} {x v : Int32} (C : fx_C X l rm D cl tys cc Ts own) (hd : decode cc pc = .ok (.iinc 6 n, 3)) (hv : x + Int32.ofInt n = v) (hp : fx_c1 a5 = true) (kk : fx_J X ws (pc + 3) (a0 :: a1 :: a2 :: a3 :: a4 :: a5 :: some (.int v) :: r) st) : fx_J X ws pc (a0 :: a1 :: a2 :: a3 :: a4 :: a5 :: some (.int x) :: r) st := jr_iincG C hd rfl hv hp rfl kk
theorem jr_incN_6 {a0 a1 a2 a3 a4 a5 : Option Value} {r : List (Option Value)} {a : Nat} (C : fx_C X l rm D cl tys cc Ts own) (hd : decode cc pc = .ok (.iinc 6 1, 3)) (hp : fx_c1 a5 = true) (kk : fx_J X ws (pc + 3) (a0 :: a1 :: a2 :: a3 :: a4 :: a5 :: some (.int (nI (a + 1))) :: r) st) : fx_J X ws pc (a0 :: a1 :: a2 :: a3 :: a4 :: a5 :: some (.int (nI a)) :: r) st := jr_iincG C hd rfl (nI_1 a) hp rfl kk
theorem jr_decN_6 {a0 a1 a2 a3 a4 a5 : Option Value} {r : List (Option Value)} {a : Nat} (C : fx_C X l rm D cl tys cc Ts own) (hd : decode cc pc = .ok (.iinc 6 (-1), 3)) (hp : fx_c1 a5 = true) (kk : fx_J X ws (pc + 3) (a0 :: a1 :: a2 :: a3 :: a4 :: a5 :: some (.int (nI a)) :: r) st) : fx_J X ws pc (a0 :: a1 :: a2 :: a3 :: a4 :: a5 :: some (.int (nI (a + 1))) :: r) st := jr_iincG C hd rfl (pk_m1 a) hp rfl kk
theorem jr_iload_7 {a0 a1 a2 a3 a4 a5 a6 : Option Value} {r : List (Option Value)} {x : Int32} (C : fx_C X l rm D cl tys cc Ts own) (hd : decode cc pc = .ok (.iload 7, 2)) (kk : fx_J X ws (pc + 2) (a0 :: a1 :: a2 :: a3 :: a4 :: a5 :: a6 :: some (.int x) :: r) (.int x :: st)) : fx_J X ws pc (a0 :: a1 :: a2 :: a3 :: a4 :: a5 :: a6 :: some (.int x) :: r) st := jr_iloadG C hd rfl kk
theorem jr_istore_7 {a0 a1 a2 a3 a4 a5 a6 : Option Value} {a7 : Option Value} {r : List (Option Value)} {x : Int32} (C : fx_C X l rm D cl tys cc Ts own) (hd : decode cc pc = .ok (.istore 7, 2)) (hp : fx_c1 a6 = true) (kk : fx_J X ws (pc + 2) (a0 :: a1 :: a2 :: a3 :: a4 :: a5 :: a6 :: some (.int x) :: r) st) : fx_J X ws pc (a0 :: a1 :: a2 :: a3 :: a4 :: a5 :: a6 :: a7 :: r) (.int x :: st) := jr_istoreG (i := 7) C hd (by simp only [List.length_cons]; omega) hp rfl kk
theorem jr_lload_7 {a0 a1 a2 a3 a4 a5 a6 : Option Value} {r : List (Option Value)} {x : Int64} (C : fx_C X l rm D cl tys cc Ts own) (hd : decode cc pc = .ok (.lload 7, 2)) (kk : fx_J X ws (pc + 2) (a0 :: a1 :: a2 :: a3 :: a4 :: a5 :: a6 :: some (.long x) :: r) (.long x :: st)) : fx_J X ws pc (a0 :: a1 :: a2 :: a3 :: a4 :: a5 :: a6 :: some (.long x) :: r) st := jr_lloadG C hd rfl kk
theorem jr_lstore_7 {a0 a1 a2 a3 a4 a5 a6 : Option Value} {a7 b7 : Option Value} {r : List (Option Value)} {x : Int64} (C : fx_C X l rm D cl tys cc Ts own) (hd : decode cc pc = .ok (.lstore 7, 2)) (hp : fx_c1 a6 = true) (kk : fx_J X ws (pc + 2) (a0 :: a1 :: a2 :: a3 :: a4 :: a5 :: a6 :: some (.long x) :: none :: r) st) : fx_J X ws pc (a0 :: a1 :: a2 :: a3 :: a4 :: a5 :: a6 :: a7 :: b7 :: r) (.long x :: st) := jr_lstoreG (i := 7) C hd (by simp only [List.length_cons]; omega) hp rfl kk
theorem jr_aload_7 {a0 a1 a2 a3 a4 a5 a6 : Option Value} {r : List (Option Value)} {x : Nat} (C : fx_C X l rm D cl tys cc Ts own) (hd : decode cc pc = .ok (.aload 7, 2)) (kk : fx_J X ws (pc + 2) (a0 :: a1 :: a2 :: a3 :: a4 :: a5 :: a6 :: some (.ref x) :: r) (.ref x :: st)) : fx_J X ws pc (a0 :: a1 :: a2 :: a3 :: a4 :: a5 :: a6 :: some (.ref x) :: r) st := jr_aloadG C hd rfl kk
theorem jr_astore_7 {a0 a1 a2 a3 a4 a5 a6 : Option Value} {a7 : Option Value} {r : List (Option Value)} {x : Nat} (C : fx_C X l rm D cl tys cc Ts own) (hd : decode cc pc = .ok (.astore 7, 2)) (hp : fx_c1 a6 = true) (kk : fx_J X ws (pc + 2) (a0 :: a1 :: a2 :: a3 :: a4 :: a5 :: a6 :: some (.ref x) :: r) st) : fx_J X ws pc (a0 :: a1 :: a2 :: a3 :: a4 :: a5 :: a6 :: a7 :: r) (.ref x :: st) := jr_astoreG (i := 7) C hd (by simp only [List.length_cons]; omega) hp rfl kk
theorem jr_iinc_7 {a0 a1 a2 a3 a4 a5 a6 : Option Value} {r : List (Option Value)} {n : Int} {x v : Int32} (C : fx_C X l rm D cl tys cc Ts own) (hd : decode cc pc = .ok (.iinc 7 n, 3)) (hv : x + Int32.ofInt n = v) (hp : fx_c1 a6 = true) (kk : fx_J X ws (pc + 3) (a0 :: a1 :: a2 :: a3 :: a4 :: a5 :: a6 :: some (.int v) :: r) st) : fx_J X ws pc (a0 :: a1 :: a2 :: a3 :: a4 :: a5 :: a6 :: some (.int x) :: r) st := jr_iincG C hd rfl hv hp rfl kk
theorem jr_incN_7 {a0 a1 a2 a3 a4 a5 a6 : Option Value} {r : List (Option Value)} {a : Nat} (C : fx_C X l rm D cl tys cc Ts own) (hd : decode cc pc = .ok (.iinc 7 1, 3)) (hp : fx_c1 a6 = true) (kk : fx_J X ws (pc + 3) (a0 :: a1 :: a2 :: a3 :: a4 :: a5 :: a6 :: some (.int (nI (a + 1))) :: r) st) : fx_J X ws pc (a0 :: a1 :: a2 :: a3 :: a4 :: a5 :: a6 :: some (.int (nI a)) :: r) st := jr_iincG C hd rfl (nI_1 a) hp rfl kk
theorem jr_decN_7 {a0 a1 a2 a3 a4 a5 a6 : Option Value} {r : List (Option Value)} {a : Nat} (C : fx_C X l rm D cl tys cc Ts own) (hd : decode cc pc = .ok (.iinc 7 (-1), 3)) (hp : fx_c1 a6 = true) (kk : fx_J X ws (pc + 3) (a0 :: a1 :: a2 :: a3 :: a4 :: a5 :: a6 :: some (.int (nI a)) :: r) st) : fx_J X ws pc (a0 :: a1 :: a2 :: a3 :: a4 :: a5 :: a6 :: some (.int (nI (a + 1))) :: r) st := jr_iincG C hd rfl (pk_m1 a) hp rfl kk
theorem jr_iload_8 {a0 a1 a2 a3 a4 a5 a6 a7 : Option Value} {r : List (Option Value)} {x : Int32} (C : fx_C X l rm D cl tys cc Ts own) (hd : decode cc pc = .ok (.iload 8, 2)) (kk : fx_J X ws (pc + 2) (a0 :: a1 :: a2 :: a3 :: a4 :: a5 :: a6 :: a7 :: some (.int x) :: r) (.int x :: st)) : fx_J X ws pc (a0 :: a1 :: a2 :: a3 :: a4 :: a5 :: a6 :: a7 :: some (.int x) :: r) st := jr_iloadG C hd rfl kk
theorem jr_istore_8 {a0 a1 a2 a3 a4 a5 a6 a7 : Option Value} {a8 : Option Value} {r : List (Option Value)} {x : Int32} (C : fx_C X l rm D cl tys cc Ts own) (hd : decode cc pc = .ok (.istore 8, 2)) (hp : fx_c1 a7 = true) (kk : fx_J X ws (pc + 2) (a0 :: a1 :: a2 :: a3 :: a4 :: a5 :: a6 :: a7 :: some (.int x) :: r) st) : fx_J X ws pc (a0 :: a1 :: a2 :: a3 :: a4 :: a5 :: a6 :: a7 :: a8 :: r) (.int x :: st) := jr_istoreG (i := 8) C hd (by simp only [List.length_cons]; omega) hp rfl kk
theorem jr_lload_8 {a0 a1 a2 a3 a4 a5 a6 a7 : Option Value} {r : List (Option Value)} {x : Int64} (C : fx_C X l rm D cl tys cc Ts own) (hd : decode cc pc = .ok (.lload 8, 2)) (kk : fx_J X ws (pc + 2) (a0 :: a1 :: a2 :: a3 :: a4 :: a5 :: a6 :: a7 :: some (.long x) :: r) (.long x :: st)) : fx_J X ws pc (a0 :: a1 :: a2 :: a3 :: a4 :: a5 :: a6 :: a7 :: some (.long x) :: r) st := jr_lloadG C hd rfl kk
theorem jr_lstore_8 {a0 a1 a2 a3 a4 a5 a6 a7 : Option Value} {a8 b8 : Option Value} {r : List (Option Value)} {x : Int64} (C : fx_C X l rm D cl tys cc Ts own) (hd : decode cc pc = .ok (.lstore 8, 2)) (hp : fx_c1 a7 = true) (kk : fx_J X ws (pc + 2) (a0 :: a1 :: a2 :: a3 :: a4 :: a5 :: a6 :: a7 :: some (.long x) :: none :: r) st) : fx_J X ws pc (a0 :: a1 :: a2 :: a3 :: a4 :: a5 :: a6 :: a7 :: a8 :: b8 :: r) (.long x :: st) := jr_lstoreG (i := 8) C hd (by simp only [List.length_cons]; omega) hp rfl kk
theorem jr_aload_8 {a0 a1 a2 a3 a4 a5 a6 a7 : Option Value} {r : List (Option Value)} {x : Nat} (C : fx_C X l rm D cl tys cc Ts own) (hd : decode cc pc = .ok (.aload 8, 2)) (kk : fx_J X ws (pc + 2) (a0 :: a1 :: a2 :: a3 :: a4 :: a5 :: a6 :: a7 :: some (.ref x) :: r) (.ref x :: st)) : fx_J X ws pc (a0 :: a1 :: a2 :: a3 :: a4 :: a5 :: a6 :: a7 :: some (.ref x) :: r) st := jr_aloadG C hd rfl kk
theorem jr_astore_8 {a0 a1 a2 a3 a4 a5 a6 a7 : Option Value} {a8 : Option Value} {r : List (Option Value)} {x : Nat} (C : fx_C X l rm D cl tys cc Ts own) (hd : decode cc pc = .ok (.astore 8, 2)) (hp : fx_c1 a7 = true) (kk : fx_J X ws (pc + 2) (a0 :: a1 :: a2 :: a3 :: a4 :: a5 :: a6 :: a7 :: some (.ref x) :: r) st) : fx_J X ws pc (a0 :: a1 :: a2 :: a3 :: a4 :: a5 :: a6 :: a7 :: a8 :: r) (.ref x :: st) := jr_astoreG (i := 8) C hd (by simp only [List.length_cons]; omega) hp rfl kk
theorem jr_iinc_8 {a0 a1 a2 a3 a4 a5 a6 a7 : Option Value} {r : List (Option Value)} {n : Int} {x v : Int32} (C : fx_C X l rm D cl tys cc Ts own) (hd : decode cc pc = .ok (.iinc 8 n, 3)) (hv : x + Int32.ofInt n = v) (hp : fx_c1 a7 = true) (kk : fx_J X ws (pc + 3) (a0 :: a1 :: a2 :: a3 :: a4 :: a5 :: a6 :: a7 :: some (.int v) :: r) st) : fx_J X ws pc (a0 :: a1 :: a2 :: a3 :: a4 :: a5 :: a6 :: a7 :: some (.int x) :: r) st := jr_iincG C hd rfl hv hp rfl kk
theorem jr_incN_8 {a0 a1 a2 a3 a4 a5 a6 a7 : Option Value} {r : List (Option Value)} {a : Nat} (C : fx_C X l rm D cl tys cc Ts own) (hd : decode cc pc = .ok (.iinc 8 1, 3)) (hp : fx_c1 a7 = true) (kk : fx_J X ws (pc + 3) (a0 :: a1 :: a2 :: a3 :: a4 :: a5 :: a6 :: a7 :: some (.int (nI (a + 1))) :: r) st) : fx_J X ws pc (a0 :: a1 :: a2 :: a3 :: a4 :: a5 :: a6 :: a7 :: some (.int (nI a)) :: r) st := jr_iincG C hd rfl (nI_1 a) hp rfl kk
theorem jr_decN_8 {a0 a1 a2 a3 a4 a5 a6 a7 : Option Value} {r : List (Option Value)} {a : Nat} (C : fx_C X l rm D cl tys cc Ts own) (hd : decode cc pc = .ok (.iinc 8 (-1), 3)) (hp : fx_c1 a7 = true) (kk : fx_J X ws (pc + 3) (a0 :: a1 :: a2 :: a3 :: a4 :: a5 :: a6 :: a7 :: some (.int (nI a)) :: r) st) : fx_J X ws pc (a0 :: a1 :: a2 :: a3 :: a4 :: a5 :: a6 :: a7 :: some (.int (nI (a + 1))) :: r) st := jr_iincG C hd rfl (pk_m1 a) hp rfl kk
theorem jr_iload_9 {a0 a1 a2 a3 a4 a5 a6 a7 a8 : Option Value} {r : List (Option Value)} {x : Int32} (C : fx_C X l rm D cl tys cc Ts own) (hd : decode cc pc = .ok (.iload 9, 2)) (kk : fx_J X ws (pc + 2) (a0 :: a1 :: a2 :: a3 :: a4 :: a5 :: a6 :: a7 :: a8 :: some (.int x) :: r) (.int x :: st)) : fx_J X ws pc (a0 :: a1 :: a2 :: a3 :: a4 :: a5 :: a6 :: a7 :: a8 :: some (.int x) :: r) st := jr_iloadG C hd rfl kk
theorem jr_istore_9 {a0 a1 a2 a3 a4 a5 a6 a7 a8 : Option Value} {a9 : Option Value} {r : List (Option Value)} {x : Int32} (C : fx_C X l rm D cl tys cc Ts own) (hd : decode cc pc = .ok (.istore 9, 2)) (hp : fx_c1 a8 = true) (kk : fx_J X ws (pc + 2) (a0 :: a1 :: a2 :: a3 :: a4 :: a5 :: a6 :: a7 :: a8 :: some (.int x) :: r) st) : fx_J X ws pc (a0 :: a1 :: a2 :: a3 :: a4 :: a5 :: a6 :: a7 :: a8 :: a9 :: r) (.int x :: st) := jr_istoreG (i := 9) C hd (by simp only [List.length_cons]; omega) hp rfl kk
theorem jr_lload_9 {a0 a1 a2 a3 a4 a5 a6 a7 a8 : Option Value} {r : List (Option Value)} {x : Int64} (C : fx_C X l rm D cl tys cc Ts own) (hd : decode cc pc = .ok (.lload 9, 2)) (kk : fx_J X ws (pc + 2) (a0 :: a1 :: a2 :: a3 :: a4 :: a5 :: a6 :: a7 :: a8 :: some (.long x) :: r) (.long x :: st)) : fx_J X ws pc (a0 :: a1 :: a2 :: a3 :: a4 :: a5 :: a6 :: a7 :: a8 :: some (.long x) :: r) st := jr_lloadG C hd rfl kk
theorem jr_lstore_9 {a0 a1 a2 a3 a4 a5 a6 a7 a8 : Option Value} {a9 b9 : Option Value} {r : List (Option Value)} {x : Int64} (C : fx_C X l rm D cl tys cc Ts own) (hd : decode cc pc = .ok (.lstore 9, 2)) (hp : fx_c1 a8 = true) (kk : fx_J X ws (pc + 2) (a0 :: a1 :: a2 :: a3 :: a4 :: a5 :: a6 :: a7 :: a8 :: some (.long x) :: none :: r) st) : fx_J X ws pc (a0 :: a1 :: a2 :: a3 :: a4 :: a5 :: a6 :: a7 :: a8 :: a9 :: b9 :: r) (.long x :: st) := jr_lstoreG (i := 9) C hd (by simp only [List.length_cons]; omega) hp rfl kk
theorem jr_aload_9 {a0 a1 a2 a3 a4 a5 a6 a7 a8 : Option Value} {r : List (Option Value)} {x : Nat} (C : fx_C X l rm D cl tys cc Ts own) (hd : decode cc pc = .ok (.aload 9, 2)) (kk : fx_J X ws (pc + 2) (a0 :: a1 :: a2 :: a3 :: a4 :: a5 :: a6 :: a7 :: a8 :: some (.ref x) :: r) (.ref x :: st)) : fx_J X ws pc (a0 :: a1 :: a2 :: a3 :: a4 :: a5 :: a6 :: a7 :: a8 :: some (.ref x) :: r) st := jr_aloadG C hd rfl kk
theorem jr_astore_9 {a0 a1 a2 a3 a4 a5 a6 a7 a8 : Option Value} {a9 : Option Value} {r : List (Option Value)} {x : Nat} (C : fx_C X l rm D cl tys cc Ts own) (hd : decode cc pc = .ok (.astore 9, 2)) (hp : fx_c1 a8 = true) (kk : fx_J X ws (pc + 2) (a0 :: a1 :: a2 :: a3 :: a4 :: a5 :: a6 :: a7 :: a8 :: some (.ref x) :: r) st) : fx_J X ws pc (a0 :: a1 :: a2 :: a3 :: a4 :: a5 :: a6 :: a7 :: a8 :: a9 :: r) (.ref x :: st) := jr_astoreG (i := 9) C hd (by simp only [List.length_cons]; omega) hp rfl kk
theorem jr_iinc_9 {a0 a1 a2 a3 a4 a5 a6 a7 a8 : Option Value} {r : List (Option Value)} {n : Int} {x v : Int32} (C : fx_C X l rm D cl tys cc Ts own) (hd : decode cc pc = .ok (.iinc 9 n, 3)) (hv : x + Int32.ofInt n = v) (hp : fx_c1 a8 = true) (kk : fx_J X ws (pc + 3) (a0 :: a1 :: a2 :: a3 :: a4 :: a5 :: a6 :: a7 :: a8 :: some (.int v) :: r) st) : fx_J X ws pc (a0 :: a1 :: a2 :: a3 :: a4 :: a5 :: a6 :: a7 :: a8 :: some (.int x) :: r) st := jr_iincG C hd rfl hv hp rfl kk
theorem jr_incN_9 {a0 a1 a2 a3 a4 a5 a6 a7 a8 : Option Value} {r : List (Option Value)} {a : Nat} (C : fx_C X l rm D cl tys cc Ts own) (hd : decode cc pc = .ok (.iinc 9 1, 3)) (hp : fx_c1 a8 = true) (kk : fx_J X ws (pc + 3) (a0 :: a1 :: a2 :: a3 :: a4 :: a5 :: a6 :: a7 :: a8 :: some (.int (nI (a + 1))) :: r) st) : fx_J X ws pc (a0 :: a1 :: a2 :: a3 :: a4 :: a5 :: a6 :: a7 :: a8 :: some (.int (nI a)) :: r) st := jr_iincG C hd rfl (nI_1 a) hp rfl kk
theorem jr_decN_9 {a0 a1 a2 a3 a4 a5 a6 a7 a8 : Option Value} {r : List (Option Value)} {a : Nat} (C : fx_C X l rm D cl tys cc Ts own) (hd : decode cc pc = .ok (.iinc 9 (-1), 3)) (hp : fx_c1 a8 = true) (kk : fx_J X ws (pc + 3) (a0 :: a1 :: a2 :: a3 :: a4 :: a5 :: a6 :: a7 :: a8 :: some (.int (nI a)) :: r) st) : fx_J X ws pc (a0 :: a1 :: a2 :: a3 :: a4 :: a5 :: a6 :: a7 :: a8 :: some (.int (nI (a + 1))) :: r) st := jr_iincG C hd rfl (pk_m1 a) hp rfl kk
theorem jr_iload_10 {a0 a1 a2 a3 a4 a5 a6 a7 a8 a9 : Option Value} {r : List (Option Value)} {x : Int32} (C : fx_C X l rm D cl tys cc Ts own) (hd : decode cc pc = .ok (.iload 10, 2)) (kk : fx_J X ws (pc + 2) (a0 :: a1 :: a2 :: a3 :: a4 :: a5 :: a6 :: a7 :: a8 :: a9 :: some (.int x) :: r) (.int x :: st)) : fx_J X ws pc (a0 :: a1 :: a2 :: a3 :: a4 :: a5 :: a6 :: a7 :: a8 :: a9 :: some (.int x) :: r) st := jr_iloadG C hd rfl kk
theorem jr_istore_10 {a0 a1 a2 a3 a4 a5 a6 a7 a8 a9 : Option Value} {a10 : Option Value} {r : List (Option Value)} {x : Int32} (C : fx_C X l rm D cl tys cc Ts own) (hd : decode cc pc = .ok (.istore 10, 2)) (hp : fx_c1 a9 = true) (kk : fx_J X ws (pc + 2) (a0 :: a1 :: a2 :: a3 :: a4 :: a5 :: a6 :: a7 :: a8 :: a9 :: some (.int x) :: r) st) : fx_J X ws pc (a0 :: a1 :: a2 :: a3 :: a4 :: a5 :: a6 :: a7 :: a8 :: a9 :: a10 :: r) (.int x :: st) := jr_istoreG (i := 10) C hd (by simp only [List.length_cons]; omega) hp rfl kk
theorem jr_lload_10 {a0 a1 a2 a3 a4 a5 a6 a7 a8 a9 : Option Value} {r : List (Option Value)} {x : Int64} (C : fx_C X l rm D cl tys cc Ts own) (hd : decode cc pc = .ok (.lload 10, 2)) (kk : fx_J X ws (pc + 2) (a0 :: a1 :: a2 :: a3 :: a4 :: a5 :: a6 :: a7 :: a8 :: a9 :: some (.long x) :: r) (.long x :: st)) : fx_J X ws pc (a0 :: a1 :: a2 :: a3 :: a4 :: a5 :: a6 :: a7 :: a8 :: a9 :: some (.long x) :: r) st := jr_lloadG C hd rfl kk
theorem jr_lstore_10 {a0 a1 a2 a3 a4 a5 a6 a7 a8 a9 : Option Value} {a10 b10 : Option Value} {r : List (Option Value)} {x : Int64} (C : fx_C X l rm D cl tys cc Ts own) (hd : decode cc pc = .ok (.lstore 10, 2)) (hp : fx_c1 a9 = true) (kk : fx_J X ws (pc + 2) (a0 :: a1 :: a2 :: a3 :: a4 :: a5 :: a6 :: a7 :: a8 :: a9 :: some (.long x) :: none :: r) st) : fx_J X ws pc (a0 :: a1 :: a2 :: a3 :: a4 :: a5 :: a6 :: a7 :: a8 :: a9 :: a10 :: b10 :: r) (.long x :: st) := jr_lstoreG (i := 10) C hd (by simp only [List.length_cons]; omega) hp rfl kk
theorem jr_aload_10 {a0 a1 a2 a3 a4 a5 a6 a7 a8 a9 : Option Value} {r : List (Option Value)} {x : Nat} (C : fx_C X l rm D cl tys cc Ts own) (hd : decode cc pc = .ok (.aload 10, 2)) (kk : fx_J X ws (pc + 2) (a0 :: a1 :: a2 :: a3 :: a4 :: a5 :: a6 :: a7 :: a8 :: a9 :: some (.ref x) :: r) (.ref x :: st)) : fx_J X ws pc (a0 :: a1 :: a2 :: a3 :: a4 :: a5 :: a6 :: a7 :: a8 :: a9 :: some (.ref x) :: r) st := jr_aloadG C hd rfl kk
theorem jr_astore_10 {a0 a1 a2 a3 a4 a5 a6 a7 a8 a9 : Option Value} {a10 : Option Value} {r : List (Option Value)} {x : Nat} (C : fx_C X l rm D cl tys cc Ts own) (hd : decode cc pc = .ok (.astore 10, 2)) (hp : fx_c1 a9 = true) (kk : fx_J X ws (pc + 2) (a0 :: a1 :: a2 :: a3 :: a4 :: a5 :: a6 :: a7 :: a8 :: a9 :: some (.ref x) :: r) st) : fx_J X ws pc (a0 :: a1 :: a2 :: a3 :: a4 :: a5 :: a6 :: a7 :: a8 :: a9 :: a10 :: r) (.ref x :: st) := jr_astoreG (i := 10) C hd (by simp only [List.length_cons]; omega) hp rfl kk
theorem jr_iinc_10 {a0 a1 a2 a3 a4 a5 a6 a7 a8 a9 : Option Value} {r : List (Option Value)} {n : Int} {x v : Int32} (C : fx_C X l rm D cl tys cc Ts own) (hd : decode cc pc = .ok (.iinc 10 n, 3)) (hv : x + Int32.ofInt n = v) (hp : fx_c1 a9 = true) (kk : fx_J X ws (pc + 3) (a0 :: a1 :: a2 :: a3 :: a4 :: a5 :: a6 :: a7 :: a8 :: a9 :: some (.int v) :: r) st) : fx_J X ws pc (a0 :: a1 :: a2 :: a3 :: a4 :: a5 :: a6 :: a7 :: a8 :: a9 :: some (.int x) :: r) st := jr_iincG C hd rfl hv hp rfl kk
theorem jr_incN_10 {a0 a1 a2 a3 a4 a5 a6 a7 a8 a9 : Option Value} {r : List (Option Value)} {a : Nat} (C : fx_C X l rm D cl tys cc Ts own) (hd : decode cc pc = .ok (.iinc 10 1, 3)) (hp : fx_c1 a9 = true) (kk : fx_J X ws (pc + 3) (a0 :: a1 :: a2 :: a3 :: a4 :: a5 :: a6 :: a7 :: a8 :: a9 :: some (.int (nI (a + 1))) :: r) st) : fx_J X ws pc (a0 :: a1 :: a2 :: a3 :: a4 :: a5 :: a6 :: a7 :: a8 :: a9 :: some (.int (nI a)) :: r) st := jr_iincG C hd rfl (nI_1 a) hp rfl kk
theorem jr_decN_10 {a0 a1 a2 a3 a4 a5 a6 a7 a8 a9 : Option Value} {r : List (Option Value)} {a : Nat} (C : fx_C X l rm D cl tys cc Ts own) (hd : decode cc pc = .ok (.iinc 10 (-1), 3)) (hp : fx_c1 a9 = true) (kk : fx_J X ws (pc + 3) (a0 :: a1 :: a2 :: a3 :: a4 :: a5 :: a6 :: a7 :: a8 :: a9 :: some (.int (nI a)) :: r) st) : fx_J X ws pc (a0 :: a1 :: a2 :: a3 :: a4 :: a5 :: a6 :: a7 :: a8 :: a9 :: some (.int (nI (a + 1))) :: r) st := jr_iincG C hd rfl (pk_m1 a) hp rfl kk
theorem jr_iload_11 {a0 a1 a2 a3 a4 a5 a6 a7 a8 a9 a10 : Option Value} {r : List (Option Value)} {x : Int32} (C : fx_C X l rm D cl tys cc Ts own) (hd : decode cc pc = .ok (.iload 11, 2)) (kk : fx_J X ws (pc + 2) (a0 :: a1 :: a2 :: a3 :: a4 :: a5 :: a6 :: a7 :: a8 :: a9 :: a10 :: some (.int x) :: r) (.int x :: st)) : fx_J X ws pc (a0 :: a1 :: a2 :: a3 :: a4 :: a5 :: a6 :: a7 :: a8 :: a9 :: a10 :: some (.int x) :: r) st := jr_iloadG C hd rfl kk
theorem jr_istore_11 {a0 a1 a2 a3 a4 a5 a6 a7 a8 a9 a10 : Option Value} {a11 : Option Value} {r : List (Option Value)} {x : Int32} (C : fx_C X l rm D cl tys cc Ts own) (hd : decode cc pc = .ok (.istore 11, 2)) (hp : fx_c1 a10 = true) (kk : fx_J X ws (pc + 2) (a0 :: a1 :: a2 :: a3 :: a4 :: a5 :: a6 :: a7 :: a8 :: a9 :: a10 :: some (.int x) :: r) st) : fx_J X ws pc (a0 :: a1 :: a2 :: a3 :: a4 :: a5 :: a6 :: a7 :: a8 :: a9 :: a10 :: a11 :: r) (.int x :: st) := jr_istoreG (i := 11) C hd (by simp only [List.length_cons]; omega) hp rfl kk
theorem jr_lload_11 {a0 a1 a2 a3 a4 a5 a6 a7 a8 a9 a10 : Option Value} {r : List (Option Value)} {x : Int64} (C : fx_C X l rm D cl tys cc Ts own) (hd : decode cc pc = .ok (.lload 11, 2)) (kk : fx_J X ws (pc + 2) (a0 :: a1 :: a2 :: a3 :: a4 :: a5 :: a6 :: a7 :: a8 :: a9 :: a10 :: some (.long x) :: r) (.long x :: st)) : fx_J X ws pc (a0 :: a1 :: a2 :: a3 :: a4 :: a5 :: a6 :: a7 :: a8 :: a9 :: a10 :: some (.long x) :: r) st := jr_lloadG C hd rfl kk
theorem jr_lstore_11 {a0 a1 a2 a3 a4 a5 a6 a7 a8 a9 a10 : Option Value} {a11 b11 : Option Value} {r : List (Option Value)} {x : Int64} (C : fx_C X l rm D cl tys cc Ts own) (hd : decode cc pc = .ok (.lstore 11, 2)) (hp : fx_c1 a10 = true) (kk : fx_J X ws (pc + 2) (a0 :: a1 :: a2 :: a3 :: a4 :: a5 :: a6 :: a7 :: a8 :: a9 :: a10 :: some (.long x) :: none :: r) st) : fx_J X ws pc (a0 :: a1 :: a2 :: a3 :: a4 :: a5 :: a6 :: a7 :: a8 :: a9 :: a10 :: a11 :: b11 :: r) (.long x :: st) := jr_lstoreG (i := 11) C hd (by simp only [List.length_cons]; omega) hp rfl kk
theorem jr_aload_11 {a0 a1 a2 a3 a4 a5 a6 a7 a8 a9 a10 : Option Value} {r : List (Option Value)} {x : Nat} (C : fx_C X l rm D cl tys cc Ts own) (hd : decode cc pc = .ok (.aload 11, 2)) (kk : fx_J X ws (pc + 2) (a0 :: a1 :: a2 :: a3 :: a4 :: a5 :: a6 :: a7 :: a8 :: a9 :: a10 :: some (.ref x) :: r) (.ref x :: st)) : fx_J X ws pc (a0 :: a1 :: a2 :: a3 :: a4 :: a5 :: a6 :: a7 :: a8 :: a9 :: a10 :: some (.ref x) :: r) st := jr_aloadG C hd rfl kk
theorem jr_astore_11 {a0 a1 a2 a3 a4 a5 a6 a7 a8 a9 a10 : Option Value} {a11 : Option Value} {r : List (Option Value)} {x : Nat} (C : fx_C X l rm D cl tys cc Ts own) (hd : decode cc pc = .ok (.astore 11, 2)) (hp : fx_c1 a10 = true) (kk : fx_J X ws (pc + 2) (a0 :: a1 :: a2 :: a3 :: a4 :: a5 :: a6 :: a7 :: a8 :: a9 :: a10 :: some (.ref x) :: r) st) : fx_J X ws pc (a0 :: a1 :: a2 :: a3 :: a4 :: a5 :: a6 :: a7 :: a8 :: a9 :: a10 :: a11 :: r) (.ref x :: st) := jr_astoreG (i := 11) C hd (by simp only [List.length_cons]; omega) hp rfl kk
theorem jr_iinc_11 {a0 a1 a2 a3 a4 a5 a6 a7 a8 a9 a10 : Option Value} {r : List (Option Value)} {n : Int} {x v : Int32} (C : fx_C X l rm D cl tys cc Ts own) (hd : decode cc pc = .ok (.iinc 11 n, 3)) (hv : x + Int32.ofInt n = v) (hp : fx_c1 a10 = true) (kk : fx_J X ws (pc + 3) (a0 :: a1 :: a2 :: a3 :: a4 :: a5 :: a6 :: a7 :: a8 :: a9 :: a10 :: some (.int v) :: r) st) : fx_J X ws pc (a0 :: a1 :: a2 :: a3 :: a4 :: a5 :: a6 :: a7 :: a8 :: a9 :: a10 :: some (.int x) :: r) st := jr_iincG C hd rfl hv hp rfl kk
theorem jr_incN_11 {a0 a1 a2 a3 a4 a5 a6 a7 a8 a9 a10 : Option Value} {r : List (Option Value)} {a : Nat} (C : fx_C X l rm D cl tys cc Ts own) (hd : decode cc pc = .ok (.iinc 11 1, 3)) (hp : fx_c1 a10 = true) (kk : fx_J X ws (pc + 3) (a0 :: a1 :: a2 :: a3 :: a4 :: a5 :: a6 :: a7 :: a8 :: a9 :: a10 :: some (.int (nI (a + 1))) :: r) st) : fx_J X ws pc (a0 :: a1 :: a2 :: a3 :: a4 :: a5 :: a6 :: a7 :: a8 :: a9 :: a10 :: some (.int (nI a)) :: r) st := jr_iincG C hd rfl (nI_1 a) hp rfl kk
theorem jr_decN_11 {a0 a1 a2 a3 a4 a5 a6 a7 a8 a9 a10 : Option Value} {r : List (Option Value)} {a : Nat} (C : fx_C X l rm D cl tys cc Ts own) (hd : decode cc pc = .ok (.iinc 11 (-1), 3)) (hp : fx_c1 a10 = true) (kk : fx_J X ws (pc + 3) (a0 :: a1 :: a2 :: a3 :: a4 :: a5 :: a6 :: a7 :: a8 :: a9 :: a10 :: some (.int (nI a)) :: r) st) : fx_J X ws pc (a0 :: a1 :: a2 :: a3 :: a4 :: a5 :: a6 :: a7 :: a8 :: a9 :: a10 :: some (.int (nI (a + 1))) :: r) st := jr_iincG C hd rfl (pk_m1 a) hp rfl kk
theorem jr_iload_12 {a0 a1 a2 a3 a4 a5 a6 a7 a8 a9 a10 a11 : Option Value} {r : List (Option Value)} {x : Int32} (C : fx_C X l rm D cl tys cc Ts own) (hd : decode cc pc = .ok (.iload 12, 2)) (kk : fx_J X ws (pc + 2) (a0 :: a1 :: a2 :: a3 :: a4 :: a5 :: a6 :: a7 :: a8 :: a9 :: a10 :: a11 :: some (.int x) :: r) (.int x :: st)) : fx_J X ws pc (a0 :: a1 :: a2 :: a3 :: a4 :: a5 :: a6 :: a7 :: a8 :: a9 :: a10 :: a11 :: some (.int x) :: r) st := jr_iloadG C hd rfl kk
theorem jr_istore_12 {a0 a1 a2 a3 a4 a5 a6 a7 a8 a9 a10 a11 : Option Value} {a12 : Option Value} {r : List (Option Value)} {x : Int32} (C : fx_C X l rm D cl tys cc Ts own) (hd : decode cc pc = .ok (.istore 12, 2)) (hp : fx_c1 a11 = true) (kk : fx_J X ws (pc + 2) (a0 :: a1 :: a2 :: a3 :: a4 :: a5 :: a6 :: a7 :: a8 :: a9 :: a10 :: a11 :: some (.int x) :: r) st) : fx_J X ws pc (a0 :: a1 :: a2 :: a3 :: a4 :: a5 :: a6 :: a7 :: a8 :: a9 :: a10 :: a11 :: a12 :: r) (.int x :: st) := jr_istoreG (i := 12) C hd (by simp only [List.length_cons]; omega) hp rfl kk
theorem jr_lload_12 {a0 a1 a2 a3 a4 a5 a6 a7 a8 a9 a10 a11 : Option Value} {r : List (Option Value)} {x : Int64} (C : fx_C X l rm D cl tys cc Ts own) (hd : decode cc pc = .ok (.lload 12, 2)) (kk : fx_J X ws (pc + 2) (a0 :: a1 :: a2 :: a3 :: a4 :: a5 :: a6 :: a7 :: a8 :: a9 :: a10 :: a11 :: some (.long x) :: r) (.long x :: st)) : fx_J X ws pc (a0 :: a1 :: a2 :: a3 :: a4 :: a5 :: a6 :: a7 :: a8 :: a9 :: a10 :: a11 :: some (.long x) :: r) st := jr_lloadG C hd rfl kk
theorem jr_lstore_12 {a0 a1 a2 a3 a4 a5 a6 a7 a8 a9 a10 a11 : Option Value} {a12 b12 : Option Value} {r : List (Option Value)} {x : Int64} (C : fx_C X l rm D cl tys cc Ts own) (hd : decode cc pc = .ok (.lstore 12, 2)) (hp : fx_c1 a11 = true) (kk : fx_J X ws (pc + 2) (a0 :: a1 :: a2 :: a3 :: a4 :: a5 :: a6 :: a7 :: a8 :: a9 :: a10 :: a11 :: some (.long x) :: none :: r) st) : fx_J X ws pc (a0 :: a1 :: a2 :: a3 :: a4 :: a5 :: a6 :: a7 :: a8 :: a9 :: a10 :: a11 :: a12 :: b12 :: r) (.long x :: st) := jr_lstoreG (i := 12) C hd (by simp only [List.length_cons]; omega) hp rfl kk
theorem jr_aload_12 {a0 a1 a2 a3 a4 a5 a6 a7 a8 a9 a10 a11 : Option Value} {r : List (Option Value)} {x : Nat} (C : fx_C X l rm D cl tys cc Ts own) (hd : decode cc pc = .ok (.aload 12, 2)) (kk : fx_J X ws (pc + 2) (a0 :: a1 :: a2 :: a3 :: a4 :: a5 :: a6 :: a7 :: a8 :: a9 :: a10 :: a11 :: some (.ref x) :: r) (.ref x :: st)) : fx_J X ws pc (a0 :: a1 :: a2 :: a3 :: a4 :: a5 :: a6 :: a7 :: a8 :: a9 :: a10 :: a11 :: some (.ref x) :: r) st := jr_aloadG C hd rfl kk
theorem jr_astore_12 {a0 a1 a2 a3 a4 a5 a6 a7 a8 a9 a10 a11 : Option Value} {a12 : Option Value} {r : List (Option Value)} {x : Nat} (C : fx_C X l rm D cl tys cc Ts own) (hd : decode cc pc = .ok (.astore 12, 2)) (hp : fx_c1 a11 = true) (kk : fx_J X ws (pc + 2) (a0 :: a1 :: a2 :: a3 :: a4 :: a5 :: a6 :: a7 :: a8 :: a9 :: a10 :: a11 :: some (.ref x) :: r) st) : fx_J X ws pc (a0 :: a1 :: a2 :: a3 :: a4 :: a5 :: a6 :: a7 :: a8 :: a9 :: a10 :: a11 :: a12 :: r) (.ref x :: st) := jr_astoreG (i := 12) C hd (by simp only [List.length_cons]; omega) hp rfl kk
theorem jr_iinc_12 {a0 a1 a2 a3 a4 a5 a6 a7 a8 a9 a10 a11 : Option Value} {r : List (Option Value)} {n : Int} {x v : Int32} (C : fx_C X l rm D cl tys cc Ts own) (hd : decode cc pc = .ok (.iinc 12 n, 3)) (hv : x + Int32.ofInt n = v) (hp : fx_c1 a11 = true) (kk : fx_J X ws (pc + 3) (a0 :: a1 :: a2 :: a3 :: a4 :: a5 :: a6 :: a7 :: a8 :: a9 :: a10 :: a11 :: some (.int v) :: r) st) : fx_J X ws pc (a0 :: a1 :: a2 :: a3 :: a4 :: a5 :: a6 :: a7 :: a8 :: a9 :: a10 :: a11 :: some (.int x) :: r) st := jr_iincG C hd rfl hv hp rfl kk
theorem jr_incN_12 {a0 a1 a2 a3 a4 a5 a6 a7 a8 a9 a10 a11 : Option Value} {r : List (Option Value)} {a : Nat} (C : fx_C X l rm D cl tys cc Ts own) (hd : decode cc pc = .ok (.iinc 12 1, 3)) (hp : fx_c1 a11 = true) (kk : fx_J X ws (pc + 3) (a0 :: a1 :: a2 :: a3 :: a4 :: a5 :: a6 :: a7 :: a8 :: a9 :: a10 :: a11 :: some (.int (nI (a + 1))) :: r) st) : fx_J X ws pc (a0 :: a1 :: a2 :: a3 :: a4 :: a5 :: a6 :: a7 :: a8 :: a9 :: a10 :: a11 :: some (.int (nI a)) :: r) st := jr_iincG C hd rfl (nI_1 a) hp rfl kk
theorem jr_decN_12 {a0 a1 a2 a3 a4 a5 a6 a7 a8 a9 a10 a11 : Option Value} {r : List (Option Value)} {a : Nat} (C : fx_C X l rm D cl tys cc Ts own) (hd : decode cc pc = .ok (.iinc 12 (-1), 3)) (hp : fx_c1 a11 = true) (kk : fx_J X ws (pc + 3) (a0 :: a1 :: a2 :: a3 :: a4 :: a5 :: a6 :: a7 :: a8 :: a9 :: a10 :: a11 :: some (.int (nI a)) :: r) st) : fx_J X ws pc (a0 :: a1 :: a2 :: a3 :: a4 :: a5 :: a6 :: a7 :: a8 :: a9 :: a10 :: a11 :: some (.int (nI (a + 1))) :: r) st := jr_iincG C hd rfl (pk_m1 a) hp rfl kk
theorem jr_iload_13 {a0 a1 a2 a3 a4 a5 a6 a7 a8 a9 a10 a11 a12 : Option Value} {r : List (Option Value)} {x : Int32} (C : fx_C X l rm D cl tys cc Ts own) (hd : decode cc pc = .ok (.iload 13, 2)) (kk : fx_J X ws (pc + 2) (a0 :: a1 :: a2 :: a3 :: a4 :: a5 :: a6 :: a7 :: a8 :: a9 :: a10 :: a11 :: a12 :: some (.int x) :: r) (.int x :: st)) : fx_J X ws pc (a0 :: a1 :: a2 :: a3 :: a4 :: a5 :: a6 :: a7 :: a8 :: a9 :: a10 :: a11 :: a12 :: some (.int x) :: r) st := jr_iloadG C hd rfl kk
theorem jr_istore_13 {a0 a1 a2 a3 a4 a5 a6 a7 a8 a9 a10 a11 a12 : Option Value} {a13 : Option Value} {r : List (Option Value)} {x : Int32} (C : fx_C X l rm D cl tys cc Ts own) (hd : decode cc pc = .ok (.istore 13, 2)) (hp : fx_c1 a12 = true) (kk : fx_J X ws (pc + 2) (a0 :: a1 :: a2 :: a3 :: a4 :: a5 :: a6 :: a7 :: a8 :: a9 :: a10 :: a11 :: a12 :: some (.int x) :: r) st) : fx_J X ws pc (a0 :: a1 :: a2 :: a3 :: a4 :: a5 :: a6 :: a7 :: a8 :: a9 :: a10 :: a11 :: a12 :: a13 :: r) (.int x :: st) := jr_istoreG (i := 13) C hd (by simp only [List.length_cons]; omega) hp rfl kk
theorem jr_lload_13 {a0 a1 a2 a3 a4 a5 a6 a7 a8 a9 a10 a11 a12 : Option Value} {r : List (Option Value)} {x : Int64} (C : fx_C X l rm D cl tys cc Ts own) (hd : decode cc pc = .ok (.lload 13, 2)) (kk : fx_J X ws (pc + 2) (a0 :: a1 :: a2 :: a3 :: a4 :: a5 :: a6 :: a7 :: a8 :: a9 :: a10 :: a11 :: a12 :: some (.long x) :: r) (.long x :: st)) : fx_J X ws pc (a0 :: a1 :: a2 :: a3 :: a4 :: a5 :: a6 :: a7 :: a8 :: a9 :: a10 :: a11 :: a12 :: some (.long x) :: r) st := jr_lloadG C hd rfl kk
theorem jr_lstore_13 {a0 a1 a2 a3 a4 a5 a6 a7 a8 a9 a10 a11 a12 : Option Value} {a13 b13 : Option Value} {r : List (Option Value)} {x : Int64} (C : fx_C X l rm D cl tys cc Ts own) (hd : decode cc pc = .ok (.lstore 13, 2)) (hp : fx_c1 a12 = true) (kk : fx_J X ws (pc + 2) (a0 :: a1 :: a2 :: a3 :: a4 :: a5 :: a6 :: a7 :: a8 :: a9 :: a10 :: a11 :: a12 :: some (.long x) :: none :: r) st) : fx_J X ws pc (a0 :: a1 :: a2 :: a3 :: a4 :: a5 :: a6 :: a7 :: a8 :: a9 :: a10 :: a11 :: a12 :: a13 :: b13 :: r) (.long x :: st) := jr_lstoreG (i := 13) C hd (by simp only [List.length_cons]; omega) hp rfl kk
theorem jr_aload_13 {a0 a1 a2 a3 a4 a5 a6 a7 a8 a9 a10 a11 a12 : Option Value} {r : List (Option Value)} {x : Nat} (C : fx_C X l rm D cl tys cc Ts own) (hd : decode cc pc = .ok (.aload 13, 2)) (kk : fx_J X ws (pc + 2) (a0 :: a1 :: a2 :: a3 :: a4 :: a5 :: a6 :: a7 :: a8 :: a9 :: a10 :: a11 :: a12 :: some (.ref x) :: r) (.ref x :: st)) : fx_J X ws pc (a0 :: a1 :: a2 :: a3 :: a4 :: a5 :: a6 :: a7 :: a8 :: a9 :: a10 :: a11 :: a12 :: some (.ref x) :: r) st := jr_aloadG C hd rfl kk
theorem jr_astore_13 {a0 a1 a2 a3 a4 a5 a6 a7 a8 a9 a10 a11 a12 : Option Value} {a13 : Option Value} {r : List (Option Value)} {x : Nat} (C : fx_C X l rm D cl tys cc Ts own) (hd : decode cc pc = .ok (.astore 13, 2)) (hp : fx_c1 a12 = true) (kk : fx_J X ws (pc + 2) (a0 :: a1 :: a2 :: a3 :: a4 :: a5 :: a6 :: a7 :: a8 :: a9 :: a10 :: a11 :: a12 :: some (.ref x) :: r) st) : fx_J X ws pc (a0 :: a1 :: a2 :: a3 :: a4 :: a5 :: a6 :: a7 :: a8 :: a9 :: a10 :: a11 :: a12 :: a13 :: r) (.ref x :: st) := jr_astoreG (i := 13) C hd (by simp only [List.length_cons]; omega) hp rfl kk
theorem jr_iinc_13 {a0 a1 a2 a3 a4 a5 a6 a7 a8 a9 a10 a11 a12 : Option Value} {r : List (Option Value)} {n : Int} {x v : Int32} (C : fx_C X l rm D cl tys cc Ts own) (hd : decode cc pc = .ok (.iinc 13 n, 3)) (hv : x + Int32.ofInt n = v) (hp : fx_c1 a12 = true) (kk : fx_J X ws (pc + 3) (a0 :: a1 :: a2 :: a3 :: a4 :: a5 :: a6 :: a7 :: a8 :: a9 :: a10 :: a11 :: a12 :: some (.int v) :: r) st) : fx_J X ws pc (a0 :: a1 :: a2 :: a3 :: a4 :: a5 :: a6 :: a7 :: a8 :: a9 :: a10 :: a11 :: a12 :: some (.int x) :: r) st := jr_iincG C hd rfl hv hp rfl kk
theorem jr_incN_13 {a0 a1 a2 a3 a4 a5 a6 a7 a8 a9 a10 a11 a12 : Option Value} {r : List (Option Value)} {a : Nat} (C : fx_C X l rm D cl tys cc Ts own) (hd : decode cc pc = .ok (.iinc 13 1, 3)) (hp : fx_c1 a12 = true) (kk : fx_J X ws (pc + 3) (a0 :: a1 :: a2 :: a3 :: a4 :: a5 :: a6 :: a7 :: a8 :: a9 :: a10 :: a11 :: a12 :: some (.int (nI (a + 1))) :: r) st) : fx_J X ws pc (a0 :: a1 :: a2 :: a3 :: a4 :: a5 :: a6 :: a7 :: a8 :: a9 :: a10 :: a11 :: a12 :: some (.int (nI a)) :: r) st := jr_iincG C hd rfl (nI_1 a) hp rfl kk
theorem jr_decN_13 {a0 a1 a2 a3 a4 a5 a6 a7 a8 a9 a10 a11 a12 : Option Value} {r : List (Option Value)} {a : Nat} (C : fx_C X l rm D cl tys cc Ts own) (hd : decode cc pc = .ok (.iinc 13 (-1), 3)) (hp : fx_c1 a12 = true) (kk : fx_J X ws (pc + 3) (a0 :: a1 :: a2 :: a3 :: a4 :: a5 :: a6 :: a7 :: a8 :: a9 :: a10 :: a11 :: a12 :: some (.int (nI a)) :: r) st) : fx_J X ws pc (a0 :: a1 :: a2 :: a3 :: a4 :: a5 :: a6 :: a7 :: a8 :: a9 :: a10 :: a11 :: a12 :: some (.int (nI (a + 1))) :: r) st := jr_iincG C hd rfl (pk_m1 a) hp rfl kk
theorem jr_get {Cn : String} {T : u_T} {N ci index a : Nat} {fs : List Value} {v : Value} (C : fx_C X l rm D cl tys cc Ts own) (hin : ∀ w ∈ u_ws Cn T N, w ∈ Ts) (hc : cl[ci]? = some (Cn, T, N)) (q0 k : Nat) (he : ws[q0]? = some (a, .inr (ci, fs))) (hk : k < N) (hlink : Cond.fieldLink own index (T k).1 (T k).2.1 (T k).2.2.1 ∈ Ts) (hv : fs[k]? = some v) (hd : decode cc pc = .ok (.getfield index, 3)) (kk : fx_J X ws (pc + 3) pl (v :: st)) : fx_J X ws pc pl (.ref a :: st) := by
  intro H locs ls hP hD hS hl
  obtain ⟨hx, hb, -, hown, hts, hK, -, -, -, hDD, hcl, -⟩ := C
  rw [hDD, hcl] at hP
  exact va_get (D := D) (ci := ci) (C := Cn) (T := T) (N := N) hx hb hts hin hown hK hP q0 he hc k hk (hts _ hlink) (fun _ h9 => h9) hv hd (kk H locs ls (by rw [hDD, hcl]; exact hP) hD hS hl)
theorem jr_put {Cn : String} {T : u_T} {N ci index a : Nat} {fs : List Value} {v : Value} {ty : FieldType} {ws2 : va_W} (C : fx_C X l rm D cl tys cc Ts own) (hin : ∀ w ∈ u_ws Cn T N, w ∈ Ts) (ty0 : Nat → FieldType) (hty : ∀ k, k < N → parseFieldDescriptor (T k).2.2.1 = some (ty0 k)) (hnm : ∀ a, a < N → ∀ b, b < N → a ≠ b → (T a).2.1 ≠ (T b).2.1) (hc : cl[ci]? = some (Cn, T, N)) (q0 k : Nat) (he : ws[q0]? = some (a, .inr (ci, fs))) (hk : k < N) (hlink : Cond.fieldLink own index (T k).1 (T k).2.1 (T k).2.2.1 ∈ Ts) (hfin : (T k).2.2.2 = false) (hdc : parseFieldDescriptor (T k).2.2.1 = some ty) (hn : narrow ty v = v) (hfit : fits ty v = true) (hlen : k < fs.length) (hw2 : ws.set q0 (a, .inr (ci, fs.set k v)) = ws2) (hd : decode cc pc = .ok (.putfield index, 3)) (kk : fx_J X ws2 (pc + 3) pl st) : fx_J X ws pc pl (v :: .ref a :: st) := by
  intro H locs ls hP hD hS hl
  obtain ⟨hx, hb, -, hown, hts, hK, -, -, -, hDD, hcl, -⟩ := C
  rw [hDD, hcl] at hP
  exact va_put (D := D) (ci := ci) (ty := ty) (C := Cn) (T := T) (N := N) hx hb hts hin ty0 hty hnm hown hK hP hD hS q0 he hc k hk (hts _ hlink) (fun _ h9 => h9) hfin hdc hn hfit hlen hd (fun H1 locs1 p1 d1 s1 => kk H1 locs1 ls (by rw [hDD, hcl, ← hw2]; exact p1) (by rw [← hw2]; exact d1) s1 hl)
theorem jr_putF {Cn : String} {T : u_T} {N ci index a : Nat} {fs : List Value} {v : Value} {ty : FieldType} {ws2 : va_W} (C : fx_C X l rm D cl tys cc Ts own) (hin2 : X.2.2.1.1.name = "<init>") (hin : ∀ w ∈ u_ws Cn T N, w ∈ Ts) (ty0 : Nat → FieldType) (hty : ∀ k, k < N → parseFieldDescriptor (T k).2.2.1 = some (ty0 k)) (hnm : ∀ a, a < N → ∀ b, b < N → a ≠ b → (T a).2.1 ≠ (T b).2.1) (hc : cl[ci]? = some (Cn, T, N)) (q0 k : Nat) (he : ws[q0]? = some (a, .inr (ci, fs))) (hk : k < N) (hlink : Cond.fieldLink own index (T k).1 (T k).2.1 (T k).2.2.1 ∈ Ts) (hfin : (T k).2.2.2 = true) (hdecl : (T k).1 = own) (hdc : parseFieldDescriptor (T k).2.2.1 = some ty) (hn : narrow ty v = v) (hfit : fits ty v = true) (hlen : k < fs.length) (hw2 : ws.set q0 (a, .inr (ci, fs.set k v)) = ws2) (hd : decode cc pc = .ok (.putfield index, 3)) (kk : fx_J X ws2 (pc + 3) pl st) : fx_J X ws pc pl (v :: .ref a :: st) := by
  intro H locs ls hP hD hS hl
  obtain ⟨hx, hb, -, hown, hts, hK, -, -, -, hDD, hcl, -⟩ := C
  rw [hDD, hcl] at hP
  exact va_putF (D := D) (ci := ci) (ty := ty) (C := Cn) (T := T) (N := N) hx hb hts hin ty0 hty hnm hown hK hP hD hS q0 he hc k hk (hts _ hlink) (fun _ h9 => h9) hfin hin2 hdecl hdc hn hfit hlen hd (fun H1 locs1 p1 d1 s1 => kk H1 locs1 ls (by rw [hDD, hcl, ← hw2]; exact p1) (by rw [← hw2]; exact d1) s1 hl)
theorem jr_iald {a n : Nat} {cA : ClassId} {f : Nat → Int32} {j : Nat} (C : fx_C X l rm D cl tys cc Ts own) (q0 t0 : Nat) (ha : ws[q0]? = some (a, .inl (cA, n, .inl f))) (ht : tys[t0]? = some (cA, .int)) (hj : j < n) (hn : n < 2 ^ 31) (hd : decode cc pc = .ok (.iaload, 1)) (kk : fx_J X ws (pc + 1) pl (.int (f j) :: st)) : fx_J X ws pc pl (.int (nI j) :: .ref a :: st) := by
  intro H locs ls hP hD hS hl
  obtain ⟨hx, hb, -, hown, hts, hK, -, -, -, hDD, hcl, -⟩ := C
  rw [hDD, hcl] at hP
  exact va_iald (D := D) hx hb hK hP q0 t0 ha ht (vp_in_nI hj hn) hd (by rw [nI_clamp (by omega)]; exact kk H locs ls (by rw [hDD, hcl]; exact hP) hD hS hl)
theorem jr_zald {a n : Nat} {cA : ClassId} {f : Nat → Int32} {j : Nat} (C : fx_C X l rm D cl tys cc Ts own) (q0 t0 : Nat) (ha : ws[q0]? = some (a, .inl (cA, n, .inl f))) (ht : tys[t0]? = some (cA, .boolean)) (hj : j < n) (hn : n < 2 ^ 31) (hd : decode cc pc = .ok (.baload, 1)) (kk : fx_J X ws (pc + 1) pl (.int (f j) :: st)) : fx_J X ws pc pl (.int (nI j) :: .ref a :: st) := by
  intro H locs ls hP hD hS hl
  obtain ⟨hx, hb, -, hown, hts, hK, -, -, -, hDD, hcl, -⟩ := C
  rw [hDD, hcl] at hP
  exact va_zald (D := D) hx hb hK hP q0 t0 ha ht (vp_in_nI hj hn) hd (by rw [nI_clamp (by omega)]; exact kk H locs ls (by rw [hDD, hcl]; exact hP) hD hS hl)
theorem jr_lald {a n : Nat} {cA : ClassId} {f : Nat → Int64} {j : Nat} (C : fx_C X l rm D cl tys cc Ts own) (q0 t0 : Nat) (ha : ws[q0]? = some (a, .inl (cA, n, .inr (.inl f)))) (ht : tys[t0]? = some (cA, .long)) (hj : j < n) (hn : n < 2 ^ 31) (hd : decode cc pc = .ok (.laload, 1)) (kk : fx_J X ws (pc + 1) pl (.long (f j) :: st)) : fx_J X ws pc pl (.int (nI j) :: .ref a :: st) := by
  intro H locs ls hP hD hS hl
  obtain ⟨hx, hb, -, hown, hts, hK, -, -, -, hDD, hcl, -⟩ := C
  rw [hDD, hcl] at hP
  exact va_lald (D := D) hx hb hK hP q0 t0 ha ht (vp_in_nI hj hn) hd (by rw [nI_clamp (by omega)]; exact kk H locs ls (by rw [hDD, hcl]; exact hP) hD hS hl)
theorem jr_iast {a n : Nat} {cA : ClassId} {f : Nat → Int32} {x : Int32} {j : Nat} {ws2 : va_W} (C : fx_C X l rm D cl tys cc Ts own) (q0 t0 : Nat) (ha : ws[q0]? = some (a, .inl (cA, n, .inl (f)))) (ht : tys[t0]? = some (cA, .int)) (hj : j < n) (hn : n < 2 ^ 31) (hw2 : ws.set q0 (a, .inl (cA, n, .inl (upd f j x))) = ws2) (hd : decode cc pc = .ok (.iastore, 1)) (kk : fx_J X ws2 (pc + 1) pl st) : fx_J X ws pc pl (.int x :: .int (nI j) :: .ref a :: st) := by
  intro H locs ls hP hD hS hl
  obtain ⟨hx, hb, -, hown, hts, hK, -, -, -, hDD, hcl, -⟩ := C
  rw [hDD, hcl] at hP
  refine va_iast (D := D) hx hb hK hP hD hS q0 t0 ha ht (vp_in_nI hj hn) hd (fun H1 locs1 p1 d1 s1 => ?_)
  rw [nI_clamp (by omega), hw2] at p1 d1
  exact kk H1 locs1 ls (by rw [hDD, hcl]; exact p1) d1 s1 hl
theorem jr_last {a n : Nat} {cA : ClassId} {f : Nat → Int64} {x : Int64} {j : Nat} {ws2 : va_W} (C : fx_C X l rm D cl tys cc Ts own) (q0 t0 : Nat) (ha : ws[q0]? = some (a, .inl (cA, n, .inr (.inl (f))))) (ht : tys[t0]? = some (cA, .long)) (hj : j < n) (hn : n < 2 ^ 31) (hw2 : ws.set q0 (a, .inl (cA, n, .inr (.inl (vp_updL f j x)))) = ws2) (hd : decode cc pc = .ok (.lastore, 1)) (kk : fx_J X ws2 (pc + 1) pl st) : fx_J X ws pc pl (.long x :: .int (nI j) :: .ref a :: st) := by
  intro H locs ls hP hD hS hl
  obtain ⟨hx, hb, -, hown, hts, hK, -, -, -, hDD, hcl, -⟩ := C
  rw [hDD, hcl] at hP
  refine va_last (D := D) hx hb hK hP hD hS q0 t0 ha ht (vp_in_nI hj hn) hd (fun H1 locs1 p1 d1 s1 => ?_)
  rw [nI_clamp (by omega), hw2] at p1 d1
  exact kk H1 locs1 ls (by rw [hDD, hcl]; exact p1) d1 s1 hl
theorem jr_zast {a n : Nat} {cA : ClassId} {f : Nat → Int32} {x : Int32} {j : Nat} {ws2 : va_W} (C : fx_C X l rm D cl tys cc Ts own) (q0 t0 : Nat) (ha : ws[q0]? = some (a, .inl (cA, n, .inl f))) (ht : tys[t0]? = some (cA, .boolean)) (hj : j < n) (hn : n < 2 ^ 31) (hx01 : x = nI 0 ∨ x = nI 1) (hw2 : ws.set q0 (a, .inl (cA, n, .inl (upd f j x))) = ws2) (hd : decode cc pc = .ok (.bastore, 1)) (kk : fx_J X ws2 (pc + 1) pl st) : fx_J X ws pc pl (.int x :: .int (nI j) :: .ref a :: st) := by
  intro H locs ls hP hD hS hl
  obtain ⟨hx, hb, -, hown, hts, hK, -, -, -, hDD, hcl, -⟩ := C
  rw [hDD, hcl] at hP
  refine va_zast (D := D) hx hb hK hP hD hS q0 t0 ha ht (vp_in_nI hj hn) hd (fun H1 locs1 p1 d1 s1 => ?_)
  have e : vp_nar .boolean x = x := by rcases hx01 with h | h <;> subst h <;> decide
  rw [nI_clamp (by omega), e, hw2] at p1 d1
  exact kk H1 locs1 ls (by rw [hDD, hcl]; exact p1) d1 s1 hl
theorem jr_w {ws2 : va_W} (h : ws = ws2) (k : fx_J X ws2 pc pl st) : fx_J X ws pc pl st := h ▸ k
end FX
abbrev fx_Pre (D : va_G) (cl : List vw_C) (tys : List (ClassId × FieldType)) (ws : va_W) (As : List Value) (sz : Nat) : Array Value → State → Prop := va_Pc As (fun U => U.heap.size = sz ∧ va_P D cl ws U.heap ∧ va_K D cl tys U ∧ va_D (fun _ => True) ws)
def fx_At (D : va_G) (cl : List vw_C) (tys : List (ClassId × FieldType)) (A : Nat → Prop) (ws : va_W) (t : State) : Prop := va_P D cl ws t.heap ∧ va_K D cl tys t ∧ va_D A ws
theorem fx_blind {D : va_G} {cl : List vw_C} {tys : List (ClassId × FieldType)} {ws : va_W} {As : List Value} {sz : Nat} : FrameBlind (fx_Pre D cl tys ws As sz) := fun a U g mk q => by
  obtain ⟨q0, q1, qP, qK, qD⟩ := q
  exact ⟨q0, q1, qP, va_K.moved (u := U) (U := U.calling g mk a) (Vm.Alike.refl U.vm) qK, qD⟩
theorem fx_goA {A0 : Nat → Prop} {ws : va_W} {H0 H : Heap} {locs : List Loc} (hD : va_D A0 ws) (hS : va_S A0 H0 H locs) (hA : ∀ q, H0.size ≤ q → A0 q) : ∀ q, va_A ws H.size q → A0 q := by
  rintro q (⟨k, e, h⟩ | h)
  · exact hD.2 k _ h
  · exact hA q (Nat.le_trans hS.1 h)
def fx_MI (l : Launch) (D : va_G) (cl : List vw_C) (tys : List (ClassId × FieldType)) {S : Type} (w : S → va_W) (y : MethodName) (ts : List Cond) (rm : Room) (As : List Value) (σ : S) (post : Int32 → S → Prop) : Prop :=
  ∀ sz : Nat, Met l y ts rm (fx_Pre D cl tys (w σ) As sz) (va_Qi post (fun u t => fx_At D cl tys (va_A (w σ) sz) (w u) t) (va_A (w σ) sz)) 0 0 (va_A (w σ) sz)
def fx_ML (l : Launch) (D : va_G) (cl : List vw_C) (tys : List (ClassId × FieldType)) {S : Type} (w : S → va_W) (y : MethodName) (ts : List Cond) (rm : Room) (As : List Value) (σ : S) (post : Int64 → S → Prop) : Prop :=
  ∀ sz : Nat, Met l y ts rm (fx_Pre D cl tys (w σ) As sz) (va_Ql post (fun u t => fx_At D cl tys (va_A (w σ) sz) (w u) t) (va_A (w σ) sz)) 0 0 (va_A (w σ) sz)
def fx_MV (l : Launch) (D : va_G) (cl : List vw_C) (tys : List (ClassId × FieldType)) {S : Type} (w : S → va_W) (y : MethodName) (ts : List Cond) (rm : Room) (As : List Value) (σ : S) (post : S → Prop) : Prop :=
  ∀ sz : Nat, Met l y ts rm (fx_Pre D cl tys (w σ) As sz) (va_Qv post (fun u t => fx_At D cl tys (va_A (w σ) sz) (w u) t) (va_A (w σ) sz)) 0 0 (va_A (w σ) sz)
theorem jr_callVi {X : fx_M} {l : Launch} {rm : Room} {D : va_G} {cl : List vw_C} {tys : List (ClassId × FieldType)} {cc : ByteArray} {Ts : List Cond} {own : String} {pc : Nat} {pl : List (Option Value)} {st : List Value} {S : Type} {w : S → va_W} {y : MethodName} {bytes : ByteArray} {maxL index n : Nat} {ret : Option FieldType} {ts2 : List Cond} {rm2 : Room} {As rest : List Value} {σ : S} {post : Int32 → S → Prop} {Cn : String} {T : u_T} {N ci b q0 : Nat} {fs : List Value} (C : fx_C X l rm D cl tys cc Ts own) (hM : fx_MI l D cl tys w y (Cond.code y bytes maxL ret :: ts2) rm2 (.ref b :: As) σ post) (hG : GoodIn Ts (wsV own index y.cls y (Cond.code y bytes maxL ret :: ts2))) (hdy : y.cls = Cn ∧ y.cls ≠ "java/lang/invoke/MethodHandle" ∧ y.cls ≠ "java/lang/invoke/VarHandle" ∧ (parseMethodDescriptor y.desc).map (fun d => d.parameters.length) = some n) (hcl : cl[ci]? = some (Cn, T, N)) (he : (w σ)[q0]? = some (b, .inr (ci, fs))) (hn : As.length = n) (hz : rm2.cells = 0 ∧ rm2.slots = 0) (hR : rm2.frames + 1 ≤ rm.frames ∧ 8 + (maxL + 11) + rm2.locals ≤ rm.locals) (hrest : (rest.map fun v => v.category).sum ≤ 8) (hst : st = As.reverse ++ .ref b :: rest) (hd : decode cc pc = .ok (.invokevirtual index, 3)) (kk : ∀ (r : Int32) (u : S), post r u → fx_J X (w u) (pc + 3) pl (.int r :: rest)) : fx_J X (w σ) pc pl st := by
  intro H locs ls hP hD hS hl
  obtain ⟨hx, hb, hml, hown, hts, hK, hA, hl0, hrm, hDD, hcl2, hfit⟩ := C
  obtain ⟨⟨p, l2, e, R⟩, ⟨s, m, args, below⟩, ⟨meth, c, Q⟩, ⟨D2, cl2, A⟩, nL, cells, slots⟩ := X
  dsimp only at hx hb hml hown hts hK hA hl0 hrm hDD hcl2 hfit hP hD hS hl kk ⊢
  subst hl0 hrm hDD hcl2
  have hF := fx_goA hD hS hA
  refine va_calli (va_runV (As := As) (rest := rest) ⟨hx, hb, hml, hown, hts⟩ (hM H.size) (cwV n hts (by rw [← hdy.1]; exact hG) rfl hz.1 hz.2 hdy hR) ⟨fx_blind, va_recv hK hP hcl he, fun U hU hW => ⟨rfl, by rw [hU], by rw [hU]; exact hP, va_K.moved hW.alike hK, hD.weaken (fun _ _ _ _ => trivial)⟩⟩ rfl hn hl.2.1 hst (lv_room hrest) hd hfit) hS (fun q _ h => hF q h) hF (fun r u t H1 locs1 ht hvm hw hB hz1 hk1 hS1 => ?_)
  obtain ⟨hP1, hK1, hD1⟩ := hB
  rw [ht] at hP1
  exact kk r u hw H1 locs1 ls hP1 (hD1.weaken (fun k q _ h => hF q.1 h)) hS1 hl
theorem jr_callSi {X : fx_M} {l : Launch} {rm : Room} {D : va_G} {cl : List vw_C} {tys : List (ClassId × FieldType)} {cc : ByteArray} {Ts : List Cond} {own : String} {pc : Nat} {pl : List (Option Value)} {st : List Value} {S : Type} {w : S → va_W} {y : MethodName} {bytes : ByteArray} {maxL index n : Nat} {ret : Option FieldType} {ts2 : List Cond} {rm2 : Room} {As rest : List Value} {σ : S} {post : Int32 → S → Prop} (C : fx_C X l rm D cl tys cc Ts own) (hM : fx_MI l D cl tys w y (Cond.code y bytes maxL ret :: ts2) rm2 As σ post) (hG : GoodIn Ts (va_wsS own index y (Cond.code y bytes maxL ret :: ts2))) (hdy : y.cls ≠ "java/lang/invoke/MethodHandle" ∧ y.cls ≠ "java/lang/invoke/VarHandle" ∧ (parseMethodDescriptor y.desc).map (fun d => d.parameters.length) = some n) (hn : As.length = n) (hz : rm2.cells = 0 ∧ rm2.slots = 0) (hR : rm2.frames + 1 ≤ rm.frames ∧ 8 + (maxL + 11) + rm2.locals ≤ rm.locals) (hrest : (rest.map fun v => v.category).sum ≤ 8) (hst : st = As.reverse ++ rest) (hd : decode cc pc = .ok (.invokestatic index, 3)) (kk : ∀ (r : Int32) (u : S), post r u → fx_J X (w u) (pc + 3) pl (.int r :: rest)) : fx_J X (w σ) pc pl st := by
  intro H locs ls hP hD hS hl
  obtain ⟨hx, hb, hml, hown, hts, hK, hA, hl0, hrm, hDD, hcl2, hfit⟩ := C
  obtain ⟨⟨p, l2, e, R⟩, ⟨s, m, args, below⟩, ⟨meth, c, Q⟩, ⟨D2, cl2, A⟩, nL, cells, slots⟩ := X
  dsimp only at hx hb hml hown hts hK hA hl0 hrm hDD hcl2 hfit hP hD hS hl kk ⊢
  subst hl0 hrm hDD hcl2
  have hF := fx_goA hD hS hA
  refine va_calli (va_runS (As := As) (rest := rest) ⟨hx, hb, hml, hown, hts⟩ (hM H.size) (va_cwS n hts hG rfl hz.1 hz.2 hdy hR) ⟨fx_blind, fun U hU hW => ⟨rfl, by rw [hU], by rw [hU]; exact hP, va_K.moved hW.alike hK, hD.weaken (fun _ _ _ _ => trivial)⟩⟩ rfl hn hl.2.1 hst (lv_room hrest) hd hfit) hS (fun q _ h => hF q h) hF (fun r u t H1 locs1 ht hvm hw hB hz1 hk1 hS1 => ?_)
  obtain ⟨hP1, hK1, hD1⟩ := hB
  rw [ht] at hP1
  exact kk r u hw H1 locs1 ls hP1 (hD1.weaken (fun k q _ h => hF q.1 h)) hS1 hl
theorem jr_callVl {X : fx_M} {l : Launch} {rm : Room} {D : va_G} {cl : List vw_C} {tys : List (ClassId × FieldType)} {cc : ByteArray} {Ts : List Cond} {own : String} {pc : Nat} {pl : List (Option Value)} {st : List Value} {S : Type} {w : S → va_W} {y : MethodName} {bytes : ByteArray} {maxL index n : Nat} {ret : Option FieldType} {ts2 : List Cond} {rm2 : Room} {As rest : List Value} {σ : S} {post : Int64 → S → Prop} {Cn : String} {T : u_T} {N ci b q0 : Nat} {fs : List Value} (C : fx_C X l rm D cl tys cc Ts own) (hM : fx_ML l D cl tys w y (Cond.code y bytes maxL ret :: ts2) rm2 (.ref b :: As) σ post) (hG : GoodIn Ts (wsV own index y.cls y (Cond.code y bytes maxL ret :: ts2))) (hdy : y.cls = Cn ∧ y.cls ≠ "java/lang/invoke/MethodHandle" ∧ y.cls ≠ "java/lang/invoke/VarHandle" ∧ (parseMethodDescriptor y.desc).map (fun d => d.parameters.length) = some n) (hcl : cl[ci]? = some (Cn, T, N)) (he : (w σ)[q0]? = some (b, .inr (ci, fs))) (hn : As.length = n) (hz : rm2.cells = 0 ∧ rm2.slots = 0) (hR : rm2.frames + 1 ≤ rm.frames ∧ 8 + (maxL + 11) + rm2.locals ≤ rm.locals) (hrest : (rest.map fun v => v.category).sum ≤ 8) (hst : st = As.reverse ++ .ref b :: rest) (hd : decode cc pc = .ok (.invokevirtual index, 3)) (kk : ∀ (r : Int64) (u : S), post r u → fx_J X (w u) (pc + 3) pl (.long r :: rest)) : fx_J X (w σ) pc pl st := by
  intro H locs ls hP hD hS hl
  obtain ⟨hx, hb, hml, hown, hts, hK, hA, hl0, hrm, hDD, hcl2, hfit⟩ := C
  obtain ⟨⟨p, l2, e, R⟩, ⟨s, m, args, below⟩, ⟨meth, c, Q⟩, ⟨D2, cl2, A⟩, nL, cells, slots⟩ := X
  dsimp only at hx hb hml hown hts hK hA hl0 hrm hDD hcl2 hfit hP hD hS hl kk ⊢
  subst hl0 hrm hDD hcl2
  have hF := fx_goA hD hS hA
  refine va_calll (va_runV (As := As) (rest := rest) ⟨hx, hb, hml, hown, hts⟩ (hM H.size) (cwV n hts (by rw [← hdy.1]; exact hG) rfl hz.1 hz.2 hdy hR) ⟨fx_blind, va_recv hK hP hcl he, fun U hU hW => ⟨rfl, by rw [hU], by rw [hU]; exact hP, va_K.moved hW.alike hK, hD.weaken (fun _ _ _ _ => trivial)⟩⟩ rfl hn hl.2.1 hst (lv_room hrest) hd hfit) hS (fun q _ h => hF q h) hF (fun r u t H1 locs1 ht hvm hw hB hz1 hk1 hS1 => ?_)
  obtain ⟨hP1, hK1, hD1⟩ := hB
  rw [ht] at hP1
  exact kk r u hw H1 locs1 ls hP1 (hD1.weaken (fun k q _ h => hF q.1 h)) hS1 hl
theorem jr_callSl {X : fx_M} {l : Launch} {rm : Room} {D : va_G} {cl : List vw_C} {tys : List (ClassId × FieldType)} {cc : ByteArray} {Ts : List Cond} {own : String} {pc : Nat} {pl : List (Option Value)} {st : List Value} {S : Type} {w : S → va_W} {y : MethodName} {bytes : ByteArray} {maxL index n : Nat} {ret : Option FieldType} {ts2 : List Cond} {rm2 : Room} {As rest : List Value} {σ : S} {post : Int64 → S → Prop} (C : fx_C X l rm D cl tys cc Ts own) (hM : fx_ML l D cl tys w y (Cond.code y bytes maxL ret :: ts2) rm2 As σ post) (hG : GoodIn Ts (va_wsS own index y (Cond.code y bytes maxL ret :: ts2))) (hdy : y.cls ≠ "java/lang/invoke/MethodHandle" ∧ y.cls ≠ "java/lang/invoke/VarHandle" ∧ (parseMethodDescriptor y.desc).map (fun d => d.parameters.length) = some n) (hn : As.length = n) (hz : rm2.cells = 0 ∧ rm2.slots = 0) (hR : rm2.frames + 1 ≤ rm.frames ∧ 8 + (maxL + 11) + rm2.locals ≤ rm.locals) (hrest : (rest.map fun v => v.category).sum ≤ 8) (hst : st = As.reverse ++ rest) (hd : decode cc pc = .ok (.invokestatic index, 3)) (kk : ∀ (r : Int64) (u : S), post r u → fx_J X (w u) (pc + 3) pl (.long r :: rest)) : fx_J X (w σ) pc pl st := by
  intro H locs ls hP hD hS hl
  obtain ⟨hx, hb, hml, hown, hts, hK, hA, hl0, hrm, hDD, hcl2, hfit⟩ := C
  obtain ⟨⟨p, l2, e, R⟩, ⟨s, m, args, below⟩, ⟨meth, c, Q⟩, ⟨D2, cl2, A⟩, nL, cells, slots⟩ := X
  dsimp only at hx hb hml hown hts hK hA hl0 hrm hDD hcl2 hfit hP hD hS hl kk ⊢
  subst hl0 hrm hDD hcl2
  have hF := fx_goA hD hS hA
  refine va_calll (va_runS (As := As) (rest := rest) ⟨hx, hb, hml, hown, hts⟩ (hM H.size) (va_cwS n hts hG rfl hz.1 hz.2 hdy hR) ⟨fx_blind, fun U hU hW => ⟨rfl, by rw [hU], by rw [hU]; exact hP, va_K.moved hW.alike hK, hD.weaken (fun _ _ _ _ => trivial)⟩⟩ rfl hn hl.2.1 hst (lv_room hrest) hd hfit) hS (fun q _ h => hF q h) hF (fun r u t H1 locs1 ht hvm hw hB hz1 hk1 hS1 => ?_)
  obtain ⟨hP1, hK1, hD1⟩ := hB
  rw [ht] at hP1
  exact kk r u hw H1 locs1 ls hP1 (hD1.weaken (fun k q _ h => hF q.1 h)) hS1 hl
theorem jr_callVv {X : fx_M} {l : Launch} {rm : Room} {D : va_G} {cl : List vw_C} {tys : List (ClassId × FieldType)} {cc : ByteArray} {Ts : List Cond} {own : String} {pc : Nat} {pl : List (Option Value)} {st : List Value} {S : Type} {w : S → va_W} {y : MethodName} {bytes : ByteArray} {maxL index n : Nat} {ret : Option FieldType} {ts2 : List Cond} {rm2 : Room} {As rest : List Value} {σ : S} {post : S → Prop} {Cn : String} {T : u_T} {N ci b q0 : Nat} {fs : List Value} (C : fx_C X l rm D cl tys cc Ts own) (hM : fx_MV l D cl tys w y (Cond.code y bytes maxL ret :: ts2) rm2 (.ref b :: As) σ post) (hG : GoodIn Ts (wsV own index y.cls y (Cond.code y bytes maxL ret :: ts2))) (hdy : y.cls = Cn ∧ y.cls ≠ "java/lang/invoke/MethodHandle" ∧ y.cls ≠ "java/lang/invoke/VarHandle" ∧ (parseMethodDescriptor y.desc).map (fun d => d.parameters.length) = some n) (hcl : cl[ci]? = some (Cn, T, N)) (he : (w σ)[q0]? = some (b, .inr (ci, fs))) (hn : As.length = n) (hz : rm2.cells = 0 ∧ rm2.slots = 0) (hR : rm2.frames + 1 ≤ rm.frames ∧ 8 + (maxL + 11) + rm2.locals ≤ rm.locals) (hrest : (rest.map fun v => v.category).sum ≤ 8) (hst : st = As.reverse ++ .ref b :: rest) (hd : decode cc pc = .ok (.invokevirtual index, 3)) (kk : ∀ u : S, post u → fx_J X (w u) (pc + 3) pl (rest)) : fx_J X (w σ) pc pl st := by
  intro H locs ls hP hD hS hl
  obtain ⟨hx, hb, hml, hown, hts, hK, hA, hl0, hrm, hDD, hcl2, hfit⟩ := C
  obtain ⟨⟨p, l2, e, R⟩, ⟨s, m, args, below⟩, ⟨meth, c, Q⟩, ⟨D2, cl2, A⟩, nL, cells, slots⟩ := X
  dsimp only at hx hb hml hown hts hK hA hl0 hrm hDD hcl2 hfit hP hD hS hl kk ⊢
  subst hl0 hrm hDD hcl2
  have hF := fx_goA hD hS hA
  refine va_callv (va_runV (As := As) (rest := rest) ⟨hx, hb, hml, hown, hts⟩ (hM H.size) (cwV n hts (by rw [← hdy.1]; exact hG) rfl hz.1 hz.2 hdy hR) ⟨fx_blind, va_recv hK hP hcl he, fun U hU hW => ⟨rfl, by rw [hU], by rw [hU]; exact hP, va_K.moved hW.alike hK, hD.weaken (fun _ _ _ _ => trivial)⟩⟩ rfl hn hl.2.1 hst (lv_room hrest) hd hfit) hS (fun q _ h => hF q h) hF (fun u t H1 locs1 ht hvm hw hB hz1 hk1 hS1 => ?_)
  obtain ⟨hP1, hK1, hD1⟩ := hB
  rw [ht] at hP1
  exact kk u hw H1 locs1 ls hP1 (hD1.weaken (fun k q _ h => hF q.1 h)) hS1 hl
theorem jr_callSv {X : fx_M} {l : Launch} {rm : Room} {D : va_G} {cl : List vw_C} {tys : List (ClassId × FieldType)} {cc : ByteArray} {Ts : List Cond} {own : String} {pc : Nat} {pl : List (Option Value)} {st : List Value} {S : Type} {w : S → va_W} {y : MethodName} {bytes : ByteArray} {maxL index n : Nat} {ret : Option FieldType} {ts2 : List Cond} {rm2 : Room} {As rest : List Value} {σ : S} {post : S → Prop} (C : fx_C X l rm D cl tys cc Ts own) (hM : fx_MV l D cl tys w y (Cond.code y bytes maxL ret :: ts2) rm2 As σ post) (hG : GoodIn Ts (va_wsS own index y (Cond.code y bytes maxL ret :: ts2))) (hdy : y.cls ≠ "java/lang/invoke/MethodHandle" ∧ y.cls ≠ "java/lang/invoke/VarHandle" ∧ (parseMethodDescriptor y.desc).map (fun d => d.parameters.length) = some n) (hn : As.length = n) (hz : rm2.cells = 0 ∧ rm2.slots = 0) (hR : rm2.frames + 1 ≤ rm.frames ∧ 8 + (maxL + 11) + rm2.locals ≤ rm.locals) (hrest : (rest.map fun v => v.category).sum ≤ 8) (hst : st = As.reverse ++ rest) (hd : decode cc pc = .ok (.invokestatic index, 3)) (kk : ∀ u : S, post u → fx_J X (w u) (pc + 3) pl (rest)) : fx_J X (w σ) pc pl st := by
  intro H locs ls hP hD hS hl
  obtain ⟨hx, hb, hml, hown, hts, hK, hA, hl0, hrm, hDD, hcl2, hfit⟩ := C
  obtain ⟨⟨p, l2, e, R⟩, ⟨s, m, args, below⟩, ⟨meth, c, Q⟩, ⟨D2, cl2, A⟩, nL, cells, slots⟩ := X
  dsimp only at hx hb hml hown hts hK hA hl0 hrm hDD hcl2 hfit hP hD hS hl kk ⊢
  subst hl0 hrm hDD hcl2
  have hF := fx_goA hD hS hA
  refine va_callv (va_runS (As := As) (rest := rest) ⟨hx, hb, hml, hown, hts⟩ (hM H.size) (va_cwS n hts hG rfl hz.1 hz.2 hdy hR) ⟨fx_blind, fun U hU hW => ⟨rfl, by rw [hU], by rw [hU]; exact hP, va_K.moved hW.alike hK, hD.weaken (fun _ _ _ _ => trivial)⟩⟩ rfl hn hl.2.1 hst (lv_room hrest) hd hfit) hS (fun q _ h => hF q h) hF (fun u t H1 locs1 ht hvm hw hB hz1 hk1 hS1 => ?_)
  obtain ⟨hP1, hK1, hD1⟩ := hB
  rw [ht] at hP1
  exact kk u hw H1 locs1 ls hP1 (hD1.weaken (fun k q _ h => hF q.1 h)) hS1 hl
theorem fx_enterI {l : Launch} {rm : Room} {D : va_G} {cl : List vw_C} {tys : List (ClassId × FieldType)} {cc : ByteArray} {ts2 : List Cond} {S : Type} {w : S → va_W} {y : MethodName} {maxL : Nat} {ty : FieldType} {As : List Value} {σ : S} {post : Int32 → S → Prop} (hy : plainName y.cls = true) (pl : List (Option Value)) (hpl : fx_fl 0 pl = lv_args 0 As) (hlen : pl.length ≤ maxL) (hln : (lg_sl As).length ≤ maxL)
    (body : ∀ X : fx_M, fx_C X l rm D cl tys cc (Cond.code y cc maxL (some ty) :: ts2) y.cls → (∀ (r : Int32) (u : S) (pc : Nat) (pl2 : List (Option Value)), decode cc pc = .ok (.ireturn, 1) → narrow ty (.int r) = .int r → post r u → fx_J X (w u) pc pl2 [.int r]) → fx_J X (w σ) 0 pl []) : fx_MI l D cl tys w y (Cond.code y cc maxL (some ty) :: ts2) rm As σ post := by
  intro sz
  refine Met.ofW (cc := cc) (maxL := maxL) (ret := (some ty)) hy rfl ?_
  intro p e s m args below meth c s₁ B hml hv
  obtain ⟨rfl, hsz, hP, hK, hD0⟩ := hv
  have hx := B.exec
  have hb := B.bytes
  have hr := B.returns
  have hts := atoms_spec (ws := Cond.code y cc maxL (some ty) :: ts2) B.pre
  have hown : s.vm.findClass y.cls = some m.cls := findClass_of_methodNamed B.named
  have hlocks : meth.locks = false := B.notSynchronized
  subst hsz
  have hD := hD0.self (sz := s.heap.size)
  have hl := lv_entry As (n := maxL) hln
  rw [lg_entry_eq]
  refine body ((p, l, e, rm), (s, m, As.toArray, below), (meth, c, MQ below (va_Qi post (fun u t => fx_At D cl tys (va_A (w σ) s.heap.size) (w u) t) (va_A (w σ) s.heap.size)) As.toArray s 0 0 (va_A (w σ) s.heap.size)), (D, cl, va_A (w σ) s.heap.size), (maxL, 0, 0)) ⟨hx, hb, hml, hown, hts, hK, fun q h => Or.inr h, rfl, rfl, rfl, rfl, Nat.zero_le _, Nat.zero_le _⟩ ?_ s.heap [] _ hP hD va_S.rf ⟨hlen, by rw [hpl]; exact hl⟩
  · intro r u pc pl2 hd hn hp H locs ls hP2 hD2 hS2 hl2
    exact W.zret (v := r) hx hb hr hn (fun t ht hW => ⟨⟨r, u, rfl, hp, by rw [ht]; exact hP2, va_K.moved hW.alike hK, hD2⟩, hS2.F ht⟩) hS2.2.2 hd hlocks
theorem fx_enterL {l : Launch} {rm : Room} {D : va_G} {cl : List vw_C} {tys : List (ClassId × FieldType)} {cc : ByteArray} {ts2 : List Cond} {S : Type} {w : S → va_W} {y : MethodName} {maxL : Nat} {As : List Value} {σ : S} {post : Int64 → S → Prop} (hy : plainName y.cls = true) (pl : List (Option Value)) (hpl : fx_fl 0 pl = lv_args 0 As) (hlen : pl.length ≤ maxL) (hln : (lg_sl As).length ≤ maxL)
    (body : ∀ X : fx_M, fx_C X l rm D cl tys cc (Cond.code y cc maxL (some .long) :: ts2) y.cls → (∀ (r : Int64) (u : S) (pc : Nat) (pl2 : List (Option Value)), decode cc pc = .ok (.lreturn, 1) → post r u → fx_J X (w u) pc pl2 [.long r]) → fx_J X (w σ) 0 pl []) : fx_ML l D cl tys w y (Cond.code y cc maxL (some .long) :: ts2) rm As σ post := by
  intro sz
  refine Met.ofW (cc := cc) (maxL := maxL) (ret := (some .long)) hy rfl ?_
  intro p e s m args below meth c s₁ B hml hv
  obtain ⟨rfl, hsz, hP, hK, hD0⟩ := hv
  have hx := B.exec
  have hb := B.bytes
  have hr := B.returns
  have hts := atoms_spec (ws := Cond.code y cc maxL (some .long) :: ts2) B.pre
  have hown : s.vm.findClass y.cls = some m.cls := findClass_of_methodNamed B.named
  have hlocks : meth.locks = false := B.notSynchronized
  subst hsz
  have hD := hD0.self (sz := s.heap.size)
  have hl := lv_entry As (n := maxL) hln
  rw [lg_entry_eq]
  refine body ((p, l, e, rm), (s, m, As.toArray, below), (meth, c, MQ below (va_Ql post (fun u t => fx_At D cl tys (va_A (w σ) s.heap.size) (w u) t) (va_A (w σ) s.heap.size)) As.toArray s 0 0 (va_A (w σ) s.heap.size)), (D, cl, va_A (w σ) s.heap.size), (maxL, 0, 0)) ⟨hx, hb, hml, hown, hts, hK, fun q h => Or.inr h, rfl, rfl, rfl, rfl, Nat.zero_le _, Nat.zero_le _⟩ ?_ s.heap [] _ hP hD va_S.rf ⟨hlen, by rw [hpl]; exact hl⟩
  · intro r u pc pl2 hd hp H locs ls hP2 hD2 hS2 hl2
    exact W.lret (v := r) hx hb hr (fun t ht hW => ⟨⟨r, u, rfl, hp, by rw [ht]; exact hP2, va_K.moved hW.alike hK, hD2⟩, hS2.F ht⟩) hS2.2.2 hd hlocks
theorem fx_enterV {l : Launch} {rm : Room} {D : va_G} {cl : List vw_C} {tys : List (ClassId × FieldType)} {cc : ByteArray} {ts2 : List Cond} {S : Type} {w : S → va_W} {y : MethodName} {maxL : Nat} {As : List Value} {σ : S} {post : S → Prop} (hy : plainName y.cls = true) (pl : List (Option Value)) (hpl : fx_fl 0 pl = lv_args 0 As) (hlen : pl.length ≤ maxL) (hln : (lg_sl As).length ≤ maxL)
    (body : ∀ X : fx_M, fx_C X l rm D cl tys cc (Cond.code y cc maxL none :: ts2) y.cls → (∀ (u : S) (pc : Nat) (pl2 : List (Option Value)), decode cc pc = .ok (.return_, 1) → post u → fx_J X (w u) pc pl2 []) → fx_J X (w σ) 0 pl []) : fx_MV l D cl tys w y (Cond.code y cc maxL none :: ts2) rm As σ post := by
  intro sz
  refine Met.ofW (cc := cc) (maxL := maxL) (ret := none) hy rfl ?_
  intro p e s m args below meth c s₁ B hml hv
  obtain ⟨rfl, hsz, hP, hK, hD0⟩ := hv
  have hx := B.exec
  have hb := B.bytes
  have hr := B.returns
  have hts := atoms_spec (ws := Cond.code y cc maxL none :: ts2) B.pre
  have hown : s.vm.findClass y.cls = some m.cls := findClass_of_methodNamed B.named
  have hlocks : meth.locks = false := B.notSynchronized
  subst hsz
  have hD := hD0.self (sz := s.heap.size)
  have hl := lv_entry As (n := maxL) hln
  rw [lg_entry_eq]
  refine body ((p, l, e, rm), (s, m, As.toArray, below), (meth, c, MQ below (va_Qv post (fun u t => fx_At D cl tys (va_A (w σ) s.heap.size) (w u) t) (va_A (w σ) s.heap.size)) As.toArray s 0 0 (va_A (w σ) s.heap.size)), (D, cl, va_A (w σ) s.heap.size), (maxL, 0, 0)) ⟨hx, hb, hml, hown, hts, hK, fun q h => Or.inr h, rfl, rfl, rfl, rfl, Nat.zero_le _, Nat.zero_le _⟩ ?_ s.heap [] _ hP hD va_S.rf ⟨hlen, by rw [hpl]; exact hl⟩
  · intro u pc pl2 hd hp H locs ls hP2 hD2 hS2 hl2
    exact W.vret hx hb hr (fun t ht hW => ⟨⟨u, rfl, hp, by rw [ht]; exact hP2, va_K.moved hW.alike hK, hD2⟩, hS2.F ht⟩) hS2.2.2 hd hlocks
end
section
def fx_up (X : fx_M) (c n : Nat) : fx_M := (X.1, X.2.1, X.2.2.1, X.2.2.2.1, (X.2.2.2.2.1, X.2.2.2.2.2.1 + c, X.2.2.2.2.2.2 + n))
section FXN
variable {X : fx_M} {l : Launch} {rm : Room} {D : va_G} {cl : List vw_C} {tys : List (ClassId × FieldType)} {cc : ByteArray} {Ts : List Cond} {own : String} {ws : va_W} {pc : Nat} {pl : List (Option Value)} {st : List Value}
theorem jr_newa {atype : ArrayType} {ty : FieldType} {N : Nat} {a0 : vp_A} (C : fx_C X l rm D cl tys cc Ts own) (harr : Cond.arrayClass ty ∈ Ts) (hty : newarray.typeOf atype = ty) (ha : ∀ cA : ClassId, vp_cell cA a0 = arrV cA N (fun _ => defaultValue ty)) (hN : N < 2 ^ 31) (hbytes : N * componentBytes ty ≤ 536870912) (hc : X.2.2.2.2.2.1 + 1 ≤ rm.cells) (hs : X.2.2.2.2.2.2 + N ≤ rm.slots) (hd : decode cc pc = .ok (.newarray atype, 2))
    (kk : ∀ (q : Nat) (cA : ClassId), fx_C (fx_up X 1 N) l rm D cl (tys ++ [(cA, ty)]) cc Ts own → fx_J (fx_up X 1 N) (ws ++ [(q, .inl (cA, a0))]) (pc + 2) pl (.ref q :: st)) : fx_J X ws pc pl (.int (nI N) :: st) := by
  intro H locs ls hP hD hS hl
  obtain ⟨hx, hb, hml, hown, hts, hK, hA, hl0, hrm, hDD, hcl2, hfit⟩ := C
  obtain ⟨⟨p, l2, e, R⟩, ⟨s, m, args, below⟩, ⟨meth, c, Q⟩, ⟨D2, cl2, A⟩, nL, cells, slots⟩ := X
  dsimp only [fx_up] at hx hb hml hown hts hK hA hl0 hrm hDD hcl2 hfit hP hD hS hl hc hs kk ⊢
  subst hl0 hrm hDD hcl2
  refine va_newa hx hb (by rw [hty]; exact hts _ harr) hty hK hP hD hS hA ha (nI_pos hN) (nI_clamp hN) hbytes hc hs hd (fun q cA H1 k1 p1 d1 s1 => ?_)
  exact kk q cA ⟨hx, hb, hml, hown, hts, k1, hA, rfl, rfl, rfl, rfl, hc, hs⟩ H1 locs ls p1 d1 s1 hl
theorem jr_objInit {idx a : Nat} (C : fx_C X l rm D cl tys cc Ts own) (h1 : Cond.methodLink own idx objectInit ∈ Ts) (h2 : Cond.instanceMethod objectInit ∈ Ts) (h3 : Cond.code objectInit ⟨#[0xb1]⟩ 1 none ∈ Ts) (hf : 1 ≤ rm.frames) (hlo : (st.map fun v => v.category).sum + 12 ≤ rm.locals) (hd : decode cc pc = .ok (.invokespecial idx, 3)) (kk : fx_J X ws (pc + 3) pl st) : fx_J X ws pc pl (.ref a :: st) := by
  intro H locs ls hP hD hS hl
  obtain ⟨hx, hb, hml, hown, hts, hK, hA, hl0, hrm, hDD, hcl2, hfit⟩ := C
  exact W.objInit hx hb hown (hts _ h1) (hts _ h2) (hts _ h3) rfl (by rw [hml]; exact hl.2.1) rfl hd (by rw [hrm]; exact hf) (by rw [hrm]; show 2 * 0 + (st.map fun v => v.category).sum + 12 ≤ _; omega) (W.eq (g2 := F0 X.2.1.2.1 (pc + 3) ls st) rfl (kk H locs ls hP hD hS hl))
end FXN
def fx_MN (l : Launch) (D : va_G) (cl : List vw_C) {S : Type} (w0 : va_W) (w : S → va_W) (tys : S → List (ClassId × FieldType)) (y : MethodName) (ts : List Cond) (rm : Room) (As : List Value) (post : S → Prop) (mc ms : Nat) : Prop :=
  ∀ sz : Nat, Met l y ts rm (fx_Pre D cl [] w0 As sz) (va_Qv post (fun u t => fx_At D cl (tys u) (va_A w0 sz) (w u) t) (va_A w0 sz)) mc ms (va_A w0 sz)
end
section
/-- how many of the first n -/
def ct_n (p : Nat → Bool) : Nat → Nat
  | 0 => 0
  | n + 1 => ct_n p n + (if p n = true then 1 else 0)
theorem ct_le (p : Nat → Bool) (n : Nat) : ct_n p n ≤ n := by
  induction n with
  | zero => exact Nat.le_refl 0
  | succ n ih => simp only [ct_n]; split <;> omega
theorem ct_congr {p q : Nat → Bool} {n : Nat} (h : ∀ i, i < n → p i = q i) : ct_n p n = ct_n q n := by
  induction n with
  | zero => rfl
  | succ n ih => simp only [ct_n]; rw [ih (fun i hi => h i (by omega)), h n (by omega)]
theorem ct_zero {p : Nat → Bool} {n : Nat} (h : ∀ i, i < n → p i = false) : ct_n p n = 0 := by
  induction n with
  | zero => rfl
  | succ n ih => simp only [ct_n]; rw [ih (fun i hi => h i (by omega)), h n (by omega)]; rfl
theorem ct_mono {p q : Nat → Bool} {n : Nat} (h : ∀ i, i < n → p i = true → q i = true) : ct_n p n ≤ ct_n q n := by
  induction n with
  | zero => exact Nat.le_refl 0
  | succ n ih =>
    simp only [ct_n]
    have h1 := ih (fun i hi => h i (by omega))
    have h2 := h n (by omega)
    by_cases hp : p n = true
    · rw [if_pos hp, if_pos (h2 hp)]; omega
    · rw [if_neg hp]; split <;> omega
theorem ct_up {p q : Nat → Bool} {n k : Nat} (hk : k < n) (hp : p k = false) (hq : q k = true) (ho : ∀ i, i < n → i ≠ k → q i = p i) : ct_n q n = ct_n p n + 1 := by
  induction n with
  | zero => omega
  | succ n ih =>
    simp only [ct_n]
    by_cases hkn : k = n
    · subst hkn
      rw [ct_congr (p := q) (q := p) (fun i hi => ho i (by omega) (by omega)), hp, hq]
      simp
    · rw [ih (by omega) (fun i hi => ho i (by omega)), ho n (by omega) (by omega)]
      omega
theorem ct_lt {p q : Nat → Bool} {n k : Nat} (h : ∀ i, i < n → p i = true → q i = true) (hk : k < n) (hp : p k = false) (hq : q k = true) : ct_n p n < ct_n q n := by
  have h1 : ct_n (fun i => if i = k then true else p i) n = ct_n p n + 1 := ct_up hk hp (by simp) (fun i _ hi => by simp [hi])
  have h2 : ct_n (fun i => if i = k then true else p i) n ≤ ct_n q n := ct_mono (fun i hi hh => by
    by_cases hik : i = k
    · rw [hik]; exact hq
    · simp [hik] at hh; exact h i hi hh)
  omega
theorem ct_ext {p : Nat → Bool} {n m : Nat} (hm : n ≤ m) (h : ∀ i, n ≤ i → i < m → p i = false) : ct_n p m = ct_n p n := by
  induction m with
  | zero => have : n = 0 := by omega
            rw [this]
  | succ m ih =>
    by_cases hn : n = m + 1
    · rw [hn]
    · simp only [ct_n]
      rw [ih (by omega) (fun i h1 h2 => h i h1 (by omega)), h m (by omega) (by omega)]
      simp
theorem ct_pos {p : Nat → Bool} {n k : Nat} (hk : k < n) (hp : p k = true) : 0 < ct_n p n := by
  have h := ct_lt (p := fun _ => false) (q := p) (n := n) (k := k) (fun _ _ h => by simp at h) hk rfl hp
  omega
theorem ct_none {p : Nat → Bool} {n k : Nat} (h : ct_n p n = 0) (hk : k < n) : p k = false := by
  cases hp : p k with
  | false => rfl
  | true => have := ct_pos hk hp; omega
theorem ct_some {p : Nat → Bool} {n : Nat} (h : 0 < ct_n p n) : ∃ k, k < n ∧ p k = true := by
  induction n with
  | zero => simp [ct_n] at h
  | succ n ih =>
    by_cases hp : p n = true
    · exact ⟨n, by omega, hp⟩
    · simp only [ct_n, if_neg hp] at h
      obtain ⟨k, h1, h2⟩ := ih h
      exact ⟨k, by omega, h2⟩
theorem ct_succ (p : Nat → Bool) (n : Nat) : ct_n p (n + 1) = ct_n p n + (if p n = true then 1 else 0) := rfl
theorem ct_st {p : Nat → Bool} {n : Nat} (h : p n = true) : ct_n p (n + 1) = ct_n p n + 1 := by rw [ct_succ, if_pos h]
theorem ct_sf {p : Nat → Bool} {n : Nat} (h : p n = false) : ct_n p (n + 1) = ct_n p n := by rw [ct_succ, h]; rfl
/-- two that never hold together -/
theorem ct_or {p q r : Nat → Bool} {n : Nat} (hr : ∀ i, i < n → r i = (p i || q i)) (hd : ∀ i, i < n → p i = true → q i = false) : ct_n r n = ct_n p n + ct_n q n := by
  induction n with
  | zero => rfl
  | succ n ih =>
    simp only [ct_n]
    rw [ih (fun i hi => hr i (by omega)) (fun i hi => hd i (by omega)), hr n (by omega)]
    have h := hd n (by omega)
    cases hp : p n <;> cases hq : q n <;> simp_all <;> omega
theorem ct_shift (p : Nat → Bool) (a n : Nat) : ct_n p (a + n) = ct_n p a + ct_n (fun i => p (a + i)) n := by
  induction n with
  | zero => rfl
  | succ n ih =>
    rw [← Nat.add_assoc, ct_succ, ct_succ, ih]
    omega
/-- sums -/
def sm_n (f : Nat → Nat) : Nat → Nat
  | 0 => 0
  | n + 1 => sm_n f n + f n
theorem sm_congr {f g : Nat → Nat} {n : Nat} (h : ∀ i, i < n → f i = g i) : sm_n f n = sm_n g n := by
  induction n with
  | zero => rfl
  | succ n ih => simp only [sm_n]; rw [ih (fun i hi => h i (by omega)), h n (by omega)]
theorem sm_add (f g : Nat → Nat) (n : Nat) : sm_n (fun i => f i + g i) n = sm_n f n + sm_n g n := by
  induction n with
  | zero => rfl
  | succ n ih => simp only [sm_n]; rw [ih]; omega
theorem sm_ct (p : Nat → Bool) (n : Nat) : sm_n (fun i => if p i = true then 1 else 0) n = ct_n p n := by
  induction n with
  | zero => rfl
  | succ n ih => simp only [sm_n, ct_n]; rw [ih]
theorem sm_zero {f : Nat → Nat} {n : Nat} (h : ∀ i, i < n → f i = 0) : sm_n f n = 0 := by
  induction n with
  | zero => rfl
  | succ n ih => simp only [sm_n]; rw [ih (fun i hi => h i (by omega)), h n (by omega)]
theorem sm_one {f : Nat → Nat} {n k : Nat} (hk : k < n) (h : ∀ i, i < n → i ≠ k → f i = 0) : sm_n f n = f k := by
  induction n with
  | zero => omega
  | succ n ih =>
    simp only [sm_n]
    by_cases e : k = n
    · subst e
      rw [sm_zero (fun i hi => h i (by omega) (by omega))]
      omega
    · rw [ih (by omega) (fun i hi => h i (by omega)), h n (by omega) (by omega)]
      omega
/-- rows with a first mark and a number below m: counted by their numbers -/
theorem ct_rows (p : Nat → Bool) (g : Nat → Nat) (m n : Nat) (hg : ∀ k, k < n → g k < m) : sm_n (fun v => ct_n (fun k => p k && (g k == v)) n) m = ct_n p n := by
  induction n with
  | zero => exact sm_zero (fun _ _ => rfl)
  | succ n ih =>
    rw [ct_succ, ← ih (fun k hk => hg k (by omega)), show (fun v => ct_n (fun k => p k && (g k == v)) (n + 1)) = (fun v => ct_n (fun k => p k && (g k == v)) n + (if (p n && (g n == v)) = true then 1 else 0)) from rfl, sm_add]
    congr 1
    rw [sm_one (k := g n) (hg n (by omega))]
    · simp
    · intro i _ hi
      have : (g n == i) = false := by simpa using fun h => hi h.symm
      simp [this]
/-- a counter that goes up to N -/
theorem lp_up {P : Nat → Prop} (N : Nat) (h : ∀ k, k ≤ N → (k < N → P (k + 1)) → P k) : ∀ k, k ≤ N → P k := by
  have : ∀ d k, k + d = N → P k := by
    intro d
    induction d with
    | zero => intro k hk; exact h k (by omega) (fun q => by omega)
    | succ d ih => intro k hk; exact h k (by omega) (fun _ => ih (k + 1) (by omega))
  exact fun k hk => this (N - k) k (by omega)
/-- a counter that goes down -/
theorem lp_dn {P : Nat → Prop} (h : ∀ k, (∀ j, j + 1 = k → P j) → P k) : ∀ k, P k := by
  intro k
  induction k with
  | zero => exact h 0 (fun j q => by omega)
  | succ k ih => exact h (k + 1) (fun j q => by have : j = k := by omega
                                                rw [this]; exact ih)
/-- a measure that falls -/
theorem lp_ms {α : Type} {P : α → Prop} (μ : α → Nat) (h : ∀ x, (∀ y, μ y < μ x → P y) → P x) : ∀ x, P x := by
  have : ∀ n x, μ x < n → P x := by
    intro n
    induction n with
    | zero => intro x hx; omega
    | succ n ih => intro x hx; exact h x (fun y hy => ih y (by omega))
  exact fun x => this (μ x + 1) x (by omega)
end
section
theorem wb_tb (n : Nat) : (lN n).toBitVec = BitVec.ofNat 64 n := rfl
theorem wb_inj {a b : Int64} (h : a.toBitVec = b.toBitVec) : a = b := Int64.toBitVec_inj.mp h
theorem wb_tn {n : Nat} (h : n < 2 ^ 64) : (lN n).toBitVec.toNat = n := by rw [wb_tb, BitVec.toNat_ofNat, Nat.mod_eq_of_lt h]
theorem wb_of (x : Int64) : ∃ n, n < 2 ^ 64 ∧ x = lN n := ⟨x.toBitVec.toNat, x.toBitVec.isLt, wb_inj (by rw [wb_tb]; simp)⟩
theorem wb_of32 (x : Int32) : ∃ n, n < 2 ^ 32 ∧ x = nI n := ⟨x.toBitVec.toNat, x.toBitVec.isLt, Int32.toBitVec_inj.mp (by show _ = BitVec.ofNat 32 _; simp)⟩
theorem wb_c : ∀ k, k < 64 → ((nI k).toInt64 &&& 63) = lN k := by decide +kernel
theorem wb_cu : ∀ k, k < 64 → ((nI k).toInt64.toUInt64 &&& Int64.toUInt64 63) = UInt64.ofNat k := by decide +kernel
theorem wb_sm : ∀ k, k < 64 → (BitVec.ofNat 64 k).smod 64 = BitVec.ofNat 64 k := by decide +kernel
theorem wb_pw {a b : Nat} (h : a ≤ b) : 2 ^ b = 2 ^ a * 2 ^ (b - a) := by rw [← Nat.pow_add]; congr 1; omega
theorem wb_lt2 {a b : Nat} (h : a < b) : 2 ^ a < 2 ^ b := Nat.pow_lt_pow_right (by decide) h
theorem wb_mod (n : Nat) : lN n = lN (n % 2 ^ 64) := wb_inj (by rw [wb_tb, wb_tb]; apply BitVec.eq_of_toNat_eq; rw [BitVec.toNat_ofNat, BitVec.toNat_ofNat, Nat.mod_mod])
theorem wb_shr {n k : Nat} (hn : n < 2 ^ 64) (hk : k < 64) : ((lN n).toUInt64 >>> ((nI k).toInt64.toUInt64 &&& Int64.toUInt64 63)).toInt64 = lN (n / 2 ^ k) := by
  rw [wb_cu k hk]
  apply wb_inj
  apply BitVec.eq_of_toNat_eq
  show ((lN n).toUInt64 >>> UInt64.ofNat k).toNat = (BitVec.ofNat 64 _).toNat
  have h1 : (UInt64.ofNat k).toNat = k := by
    show (BitVec.ofNat 64 k).toNat = k
    rw [BitVec.toNat_ofNat, Nat.mod_eq_of_lt (by omega)]
  have h2 : (lN n).toUInt64.toNat = n := wb_tn hn
  rw [UInt64.toNat_shiftRight, h1, h2, Nat.mod_eq_of_lt hk, Nat.shiftRight_eq_div_pow, BitVec.toNat_ofNat, Nat.mod_eq_of_lt (Nat.lt_of_le_of_lt (Nat.div_le_self _ _) hn)]
theorem wb_shl (n : Nat) {k : Nat} (hk : k < 64) : lN n <<< ((nI k).toInt64 &&& 63) = lN (n * 2 ^ k) := by
  rw [wb_c k hk]
  apply wb_inj
  rw [Int64.toBitVec_shiftLeft, wb_tb, wb_tb, wb_tb, wb_sm k hk]
  apply BitVec.eq_of_toNat_eq
  rw [BitVec.shiftLeft_eq', BitVec.toNat_shiftLeft, BitVec.toNat_ofNat, BitVec.toNat_ofNat, BitVec.toNat_ofNat, Nat.mod_eq_of_lt (show k < 2 ^ 64 by omega), Nat.shiftLeft_eq, Nat.mul_mod, Nat.mod_mod, ← Nat.mul_mod]
theorem wb_and {a b : Nat} (ha : a < 2 ^ 64) (hb : b < 2 ^ 64) : lN a &&& lN b = lN (a &&& b) := by
  apply wb_inj
  rw [Int64.toBitVec_and, wb_tb, wb_tb, wb_tb]
  apply BitVec.eq_of_toNat_eq
  rw [BitVec.toNat_and, BitVec.toNat_ofNat, BitVec.toNat_ofNat, BitVec.toNat_ofNat, Nat.mod_eq_of_lt ha, Nat.mod_eq_of_lt hb, Nat.mod_eq_of_lt (Nat.and_lt_two_pow _ hb)]
/-- bit r of a long -/
def tb_b (x : Int64) (r : Nat) : Bool := x.toBitVec.getLsbD r
theorem tb_or (x y : Int64) (r : Nat) : tb_b (x ||| y) r = (tb_b x r || tb_b y r) := by
  simp [tb_b, Int64.toBitVec_or]
theorem tb_and (x y : Int64) (r : Nat) : tb_b (x &&& y) r = (tb_b x r && tb_b y r) := by
  simp [tb_b, Int64.toBitVec_and]
theorem tb_xor (x y : Int64) (r : Nat) : tb_b (x ^^^ y) r = (tb_b x r ^^ tb_b y r) := by
  simp [tb_b, Int64.toBitVec_xor]
theorem tb_m1 : ∀ r, r < 64 → tb_b (-1) r = true := by decide +kernel
theorem tb_0 (r : Nat) : tb_b 0 r = false := by simp [tb_b]
theorem tb_big {x : Int64} {r : Nat} (h : 64 ≤ r) : tb_b x r = false := BitVec.getLsbD_of_ge _ _ h
theorem tb_not (x : Int64) {r : Nat} (h : r < 64) : tb_b (x ^^^ (-1)) r = !tb_b x r := by
  rw [tb_xor, tb_m1 r h]; simp
theorem tb_ext {x y : Int64} (h : ∀ r, r < 64 → tb_b x r = tb_b y r) : x = y :=
  Int64.toBitVec_inj.mp (BitVec.eq_of_getLsbD_eq (fun r hr => h r hr))
theorem tb_1s : ∀ r, r < 64 → ((1 : Int64) <<< ((nI r).toInt64 &&& 63)).toBitVec = BitVec.twoPow 64 r := by decide +kernel
/-- the long that holds bit r alone -/
def tb_1 (r : Nat) : Int64 := (1 : Int64) <<< ((nI r).toInt64 &&& 63)
theorem tb_one {r : Nat} (h : r < 64) (j : Nat) : tb_b (tb_1 r) j = decide (j = r) := by
  unfold tb_b tb_1
  rw [tb_1s r h, BitVec.getLsbD_twoPow]
  simp [h, eq_comm]
theorem tb_has {x : Int64} {r : Nat} (h : r < 64) : (x &&& tb_1 r) = 0 ↔ tb_b x r = false := by
  constructor
  · intro e
    have h1 := tb_and x (tb_1 r) r
    rw [e, tb_0, tb_one h] at h1
    simpa using h1.symm
  · intro e
    apply tb_ext
    intro j hj
    rw [tb_and, tb_0, tb_one h]
    by_cases q : j = r
    · rw [q, e]; rfl
    · simp [q]
theorem tb_set {x : Int64} {r j : Nat} (h : r < 64) : tb_b (x ||| tb_1 r) j = (tb_b x j || decide (j = r)) := by
  rw [tb_or, tb_one h]
theorem tb_clr {x : Int64} {r j : Nat} (h : r < 64) (hj : j < 64) : tb_b (x &&& (tb_1 r ^^^ (-1))) j = (tb_b x j && !decide (j = r)) := by
  rw [tb_and, tb_not _ hj, tb_one h]
/-! how many bits: the library's way, byte by byte -/
def by_n : List Nat → Nat
  | [] => 0
  | b :: r => 2 ^ 8 * by_n r + b
theorem by_and1 {A a M m : Nat} (ha : a < 2 ^ 8) (hm : m < 2 ^ 8) : (2 ^ 8 * A + a) &&& (2 ^ 8 * M + m) = 2 ^ 8 * (A &&& M) + (a &&& m) := by
  apply Nat.eq_of_testBit_eq
  intro j
  rw [Nat.testBit_and, Nat.testBit_two_pow_mul_add _ ha, Nat.testBit_two_pow_mul_add _ hm, Nat.testBit_two_pow_mul_add _ (Nat.lt_of_le_of_lt Nat.and_le_left ha)]
  by_cases h : j < 8
  · simp [h]
  · simp [h]
theorem by_and {f : Nat → Nat} {m : Nat} (hm : m < 2 ^ 8) (hf : ∀ b, b < 2 ^ 8 → b &&& m = f b) : ∀ l : List Nat, (∀ b ∈ l, b < 2 ^ 8) → by_n l &&& by_n (List.replicate l.length m) = by_n (l.map f) := by
  intro l
  induction l with
  | nil => intro _; simp [by_n]
  | cons b r ih =>
    intro h
    have hb := h b List.mem_cons_self
    simp only [List.length_cons, List.replicate_succ, List.map_cons, by_n]
    rw [by_and1 hb hm, ih (fun x hx => h x (List.mem_cons_of_mem _ hx)), hf b hb]
theorem by_shr1 {A a s : Nat} (hs : s ≤ 8) : (2 ^ 8 * A + a) >>> s = 2 ^ 8 * (A >>> s) + (2 ^ (8 - s) * (A % 2 ^ s) + a >>> s) := by
  rw [Nat.shiftRight_eq_div_pow, Nat.shiftRight_eq_div_pow, Nat.shiftRight_eq_div_pow]
  have h1 : 2 ^ 8 = 2 ^ s * 2 ^ (8 - s) := by rw [← Nat.pow_add]; congr 1; omega
  have h2 : A = 2 ^ s * (A / 2 ^ s) + A % 2 ^ s := (Nat.div_add_mod A (2 ^ s)).symm
  have hp : 0 < 2 ^ s := Nat.two_pow_pos s
  have h3 : 2 ^ 8 * A + a = 2 ^ s * (2 ^ 8 * (A / 2 ^ s) + 2 ^ (8 - s) * (A % 2 ^ s)) + a := by
    conv => lhs; rw [h2]
    rw [Nat.mul_add, Nat.mul_add]
    congr 2
    · rw [← Nat.mul_assoc, ← Nat.mul_assoc, Nat.mul_comm (2 ^ 8)]
    · rw [h1, Nat.mul_assoc]
  rw [h3, Nat.mul_add_div hp, Nat.add_assoc]
theorem by_and3 {A c a M m s : Nat} (hs : s ≤ 8) (hc : c < 2 ^ s) (ha : a < 2 ^ (8 - s)) (hm : m < 2 ^ (8 - s)) : (2 ^ 8 * A + (2 ^ (8 - s) * c + a)) &&& (2 ^ 8 * M + m) = 2 ^ 8 * (A &&& M) + (a &&& m) := by
  have h1 : 2 ^ 8 = 2 ^ (8 - s) * 2 ^ s := by rw [← Nat.pow_add]; congr 1; omega
  have h2 : 2 ^ (8 - s) * c + a < 2 ^ 8 := by
    have h3 : 2 ^ (8 - s) * (c + 1) ≤ 2 ^ (8 - s) * 2 ^ s := Nat.mul_le_mul_left _ hc
    rw [Nat.mul_add] at h3
    omega
  have h4 : m < 2 ^ 8 := Nat.lt_of_lt_of_le hm (Nat.pow_le_pow_right (by omega) (by omega))
  rw [by_and1 h2 h4]
  congr 1
  apply Nat.eq_of_testBit_eq
  intro j
  rw [Nat.testBit_and, Nat.testBit_and, Nat.testBit_two_pow_mul_add _ ha]
  by_cases h : j < 8 - s
  · simp [h]
  · have h5 : m.testBit j = false := Nat.testBit_lt_two_pow (Nat.lt_of_lt_of_le hm (Nat.pow_le_pow_right (by omega) (by omega)))
    simp [h, h5]
theorem by_shr {f : Nat → Nat} {m s : Nat} (hs : s ≤ 8) (hm : m < 2 ^ (8 - s)) (hf : ∀ b, b < 2 ^ 8 → (b >>> s) &&& m = f b) : ∀ l : List Nat, (∀ b ∈ l, b < 2 ^ 8) → (by_n l >>> s) &&& by_n (List.replicate l.length m) = by_n (l.map f) := by
  intro l
  induction l with
  | nil => intro _; simp [by_n]
  | cons b r ih =>
    intro h
    have hb := h b List.mem_cons_self
    simp only [List.length_cons, List.replicate_succ, List.map_cons, by_n]
    have h1 : 2 ^ 8 = 2 ^ (8 - s) * 2 ^ s := by rw [← Nat.pow_add]; congr 1; omega
    have hb2 : b >>> s < 2 ^ (8 - s) := by
      rw [Nat.shiftRight_eq_div_pow]
      exact (Nat.div_lt_iff_lt_mul (Nat.two_pow_pos s)).mpr (by rw [← h1]; exact hb)
    rw [by_shr1 hs, by_and3 hs (Nat.mod_lt _ (Nat.two_pow_pos s)) hb2 hm, ih (fun x hx => h x (List.mem_cons_of_mem _ hx)), hf b hb]
theorem by_add {f g : Nat → Nat} : ∀ l : List Nat, by_n (l.map f) + by_n (l.map g) = by_n (l.map (fun b => f b + g b)) := by
  intro l
  induction l with
  | nil => rfl
  | cons b r ih => simp only [List.map_cons, by_n]; rw [← ih]; omega
theorem by_sub {f g : Nat → Nat} : ∀ l : List Nat, (∀ b ∈ l, g b ≤ f b) → by_n (l.map g) ≤ by_n (l.map f) ∧ by_n (l.map f) - by_n (l.map g) = by_n (l.map (fun b => f b - g b)) := by
  intro l
  induction l with
  | nil => intro _; exact ⟨Nat.le_refl _, rfl⟩
  | cons b r ih =>
    intro h
    have h1 := h b List.mem_cons_self
    have h2 := ih (fun x hx => h x (List.mem_cons_of_mem _ hx))
    simp only [List.map_cons, by_n]
    refine ⟨by omega, ?_⟩
    rw [← h2.2]
    omega
theorem by_nib1 : ∀ c, c < 5 → ∀ b, b < 69 → (b + (b >>> 4) + 2 ^ 4 * c) &&& 15 = (b + (b >>> 4)) &&& 15 := by decide +kernel
/-- bytes whose halves are at most 4 -/
theorem by_nib : ∀ l : List Nat, (∀ b ∈ l, b < 69 ∧ b % 16 < 5) → by_n l % 16 < 5 ∧ (by_n l + (by_n l >>> 4)) &&& by_n (List.replicate l.length 15) = by_n (l.map (fun b => (b + (b >>> 4)) &&& 15)) := by
  intro l
  induction l with
  | nil => intro _; exact ⟨by decide, rfl⟩
  | cons b r ih =>
    intro h
    obtain ⟨hb, hb2⟩ := h b List.mem_cons_self
    obtain ⟨h1, h2⟩ := ih (fun x hx => h x (List.mem_cons_of_mem _ hx))
    simp only [List.length_cons, List.replicate_succ, List.map_cons, by_n]
    refine ⟨by omega, ?_⟩
    rw [by_shr1 (by omega), ← h2]
    have e : 2 ^ 8 * by_n r + b + (2 ^ 8 * (by_n r >>> 4) + (2 ^ (8 - 4) * (by_n r % 2 ^ 4) + b >>> 4)) = 2 ^ 8 * (by_n r + by_n r >>> 4) + (b + (b >>> 4) + 2 ^ 4 * (by_n r % 16)) := by
      rw [show (8 : Nat) - 4 = 4 from rfl, show (2 : Nat) ^ 4 = 16 from rfl]
      omega
    have hs : b >>> 4 ≤ 4 := by rw [Nat.shiftRight_eq_div_pow]; omega
    rw [e, by_and1 (by omega) (by decide), by_nib1 _ h1 b hb]
def g1_b (b : Nat) : Nat := b - ((b >>> 1) &&& 85)
def g2_b (b : Nat) : Nat := (b &&& 51) + ((b >>> 2) &&& 51)
def g3_b (b : Nat) : Nat := (b + (b >>> 4)) &&& 15
theorem g1_ok : ∀ b, b < 2 ^ 8 → (b >>> 1) &&& 85 ≤ b ∧ g1_b b < 2 ^ 8 := by decide +kernel
theorem g2_ok : ∀ b, b < 2 ^ 8 → g2_b (g1_b b) < 69 ∧ g2_b (g1_b b) % 16 < 5 := by decide +kernel
theorem g3_ok : ∀ b, b < 2 ^ 8 → g3_b (g2_b (g1_b b)) = ct_n b.testBit 8 := by decide +kernel
theorem by_ct : ∀ l : List Nat, (∀ b ∈ l, b < 2 ^ 8) → ct_n (by_n l).testBit (8 * l.length) = (l.map (fun b => ct_n b.testBit 8)).sum := by
  intro l
  induction l with
  | nil => intro _; rfl
  | cons b r ih =>
    intro h
    have hb := h b List.mem_cons_self
    rw [List.length_cons, show 8 * (r.length + 1) = 8 + 8 * r.length by omega, ct_shift, List.map_cons, List.sum_cons, ← ih (fun x hx => h x (List.mem_cons_of_mem _ hx))]
    congr 1
    · apply ct_congr
      intro i hi
      rw [by_n, Nat.testBit_two_pow_mul_add _ hb, if_pos hi]
    · apply ct_congr
      intro i hi
      rw [by_n, Nat.testBit_two_pow_mul_add _ hb, if_neg (by omega), show 8 + i - 8 = i by omega]
theorem by_ex : ∀ k n : Nat, n < 2 ^ (8 * k) → ∃ l : List Nat, l.length = k ∧ (∀ b ∈ l, b < 2 ^ 8) ∧ by_n l = n := by
  intro k
  induction k with
  | zero => intro n h; exact ⟨[], rfl, by simp, by simp [by_n]; omega⟩
  | succ k ih =>
    intro n h
    obtain ⟨l, h1, h2, h3⟩ := ih (n / 2 ^ 8) (by
      rw [Nat.div_lt_iff_lt_mul (Nat.two_pow_pos 8), ← Nat.pow_add]
      exact h)
    refine ⟨(n % 2 ^ 8) :: l, by simp [h1], ?_, ?_⟩
    · intro b hb
      rcases List.mem_cons.mp hb with e | e
      · rw [e]; exact Nat.mod_lt _ (Nat.two_pow_pos 8)
      · exact h2 b e
    · rw [by_n, h3]; exact Nat.div_add_mod n (2 ^ 8)
theorem by_8 (n : Nat) (h : n < 2 ^ 64) : ∃ b0 b1 b2 b3 b4 b5 b6 b7 : Nat, (∀ b ∈ [b0, b1, b2, b3, b4, b5, b6, b7], b < 2 ^ 8) ∧ n = by_n [b0, b1, b2, b3, b4, b5, b6, b7] := by
  obtain ⟨l, h1, h2, h3⟩ := by_ex 8 n h
  match l, h1, h2, h3 with
  | [b0, b1, b2, b3, b4, b5, b6, b7], _, h2, h3 => exact ⟨b0, b1, b2, b3, b4, b5, b6, b7, h2, h3.symm⟩
theorem by_lt : ∀ l : List Nat, (∀ b ∈ l, b < 2 ^ 8) → by_n l < 2 ^ (8 * l.length) := by
  intro l
  induction l with
  | nil => intro _; decide
  | cons b r ih =>
    intro h
    have hb := h b List.mem_cons_self
    have hr := ih (fun x hx => h x (List.mem_cons_of_mem _ hx))
    rw [by_n, List.length_cons, show 8 * (r.length + 1) = 8 * r.length + 8 by omega, Nat.pow_add]
    have : (by_n r + 1) * 2 ^ 8 ≤ 2 ^ (8 * r.length) * 2 ^ 8 := Nat.mul_le_mul_right _ hr
    omega
theorem bc_s1 (l : List Nat) (h8 : l.length = 8) (h : ∀ b ∈ l, b < 2 ^ 8) : lN (by_n l) - (lN (by_n l / 2 ^ 1) &&& 0x5555555555555555) = lN (by_n (l.map g1_b)) := by
  have hlt := by_lt l h
  rw [h8] at hlt
  have hm : by_n (List.replicate l.length 85) = 0x5555555555555555 := by rw [h8]; rfl
  have e1 : (by_n l >>> 1) &&& by_n (List.replicate l.length 85) = by_n (l.map (fun b => (b >>> 1) &&& 85)) := by_shr (by omega) (by decide) (fun _ _ => rfl) l h
  rw [show (0x5555555555555555 : Int64) = lN (by_n (List.replicate l.length 85)) by rw [hm]; rfl, wb_and (Nat.lt_of_le_of_lt (Nat.div_le_self _ _) hlt) (by rw [hm]; decide), ← Nat.shiftRight_eq_div_pow, e1]
  obtain ⟨q1, q2⟩ := by_sub (f := fun b => b) (g := fun b => (b >>> 1) &&& 85) l (fun b hb => (g1_ok b (h b hb)).1)
  rw [List.map_id'] at q1 q2
  rw [lN_sub q1, q2]
  rfl
theorem bc_s2 (l : List Nat) (h8 : l.length = 8) (h : ∀ b ∈ l, b < 2 ^ 8) : (lN (by_n l) &&& 0x3333333333333333) + (lN (by_n l / 2 ^ 2) &&& 0x3333333333333333) = lN (by_n (l.map g2_b)) := by
  have hlt := by_lt l h
  rw [h8] at hlt
  have hm : by_n (List.replicate l.length 51) = 0x3333333333333333 := by rw [h8]; rfl
  have e1 : (by_n l >>> 2) &&& by_n (List.replicate l.length 51) = by_n (l.map (fun b => (b >>> 2) &&& 51)) := by_shr (by omega) (by decide) (fun _ _ => rfl) l h
  have e2 : by_n l &&& by_n (List.replicate l.length 51) = by_n (l.map (fun b => b &&& 51)) := by_and (by decide) (fun _ _ => rfl) l h
  rw [show (0x3333333333333333 : Int64) = lN (by_n (List.replicate l.length 51)) by rw [hm]; rfl, wb_and (Nat.lt_of_le_of_lt (Nat.div_le_self _ _) hlt) (by rw [hm]; decide), wb_and hlt (by rw [hm]; decide), ← Nat.shiftRight_eq_div_pow, e1, e2, lN_add, by_add]
  rfl
theorem bc_s3 (l : List Nat) (h8 : l.length = 8) (h : ∀ b ∈ l, b < 69 ∧ b % 16 < 5) : (lN (by_n l) + lN (by_n l / 2 ^ 4)) &&& 0x0f0f0f0f0f0f0f0f = lN (by_n (l.map g3_b)) := by
  have hm : by_n (List.replicate l.length 15) = 0x0f0f0f0f0f0f0f0f := by rw [h8]; rfl
  have e1 := (by_nib l h).2
  have hlt : by_n l + by_n l / 2 ^ 4 < 2 ^ 64 := by
    match l, h8, h with
    | [b0, b1, b2, b3, b4, b5, b6, b7], _, h =>
      have := (h b0 (by simp)).1
      have := (h b1 (by simp)).1
      have := (h b2 (by simp)).1
      have := (h b3 (by simp)).1
      have := (h b4 (by simp)).1
      have := (h b5 (by simp)).1
      have := (h b6 (by simp)).1
      have := (h b7 (by simp)).1
      simp only [by_n]
      omega
  rw [lN_add, show (0x0f0f0f0f0f0f0f0f : Int64) = lN (by_n (List.replicate l.length 15)) by rw [hm]; rfl, wb_and hlt (by rw [hm]; decide), ← Nat.shiftRight_eq_div_pow, e1]
  rfl
theorem by_div {b : Nat} {r : List Nat} (h : b < 2 ^ 8) : by_n (b :: r) / 2 ^ 8 = by_n r := by
  rw [by_n, Nat.mul_add_div (Nat.two_pow_pos 8), Nat.div_eq_of_lt h, Nat.add_zero]
theorem bc_s4 {d0 d1 d2 d3 d4 d5 d6 d7 a b c z : Nat} (h0 : d0 ≤ 8) (h1 : d1 ≤ 8) (h2 : d2 ≤ 8) (h3 : d3 ≤ 8) (h4 : d4 ≤ 8) (h5 : d5 ≤ 8) (h6 : d6 ≤ 8) (h7 : d7 ≤ 8) (ea : a = by_n [d0, d1, d2, d3, d4, d5, d6, d7]) (eb : b = a + a / 2 ^ 8) (ec : c = b + b / 2 ^ 16) (ez : z = c + c / 2 ^ 32) : z % 2 ^ 32 % 2 ^ 7 = d0 + d1 + d2 + d3 + d4 + d5 + d6 + d7 ∧ z < 2 ^ 64 ∧ c < 2 ^ 64 ∧ b < 2 ^ 64 := by
  have q1 : a / 2 ^ 8 = by_n [d1, d2, d3, d4, d5, d6, d7] := by rw [ea]; exact by_div (by omega)
  have eb2 : b = by_n [d0 + d1, d1 + d2, d2 + d3, d3 + d4, d4 + d5, d5 + d6, d6 + d7, d7] := by
    rw [eb, q1, ea]; simp only [by_n]; omega
  have q2 : b / 2 ^ 16 = by_n [d2 + d3, d3 + d4, d4 + d5, d5 + d6, d6 + d7, d7] := by
    rw [eb2, show (2 : Nat) ^ 16 = 2 ^ 8 * 2 ^ 8 from rfl, ← Nat.div_div_eq_div_mul, by_div (by omega), by_div (by omega)]
  have ec2 : c = by_n [d0 + d1 + (d2 + d3), d1 + d2 + (d3 + d4), d2 + d3 + (d4 + d5), d3 + d4 + (d5 + d6), d4 + d5 + (d6 + d7), d5 + d6 + d7, d6 + d7, d7] := by
    rw [ec, q2, eb2]; simp only [by_n]; omega
  have q3 : c / 2 ^ 32 = by_n [d4 + d5 + (d6 + d7), d5 + d6 + d7, d6 + d7, d7] := by
    rw [ec2, show (2 : Nat) ^ 32 = 2 ^ 8 * 2 ^ 8 * 2 ^ 8 * 2 ^ 8 from rfl, ← Nat.div_div_eq_div_mul, ← Nat.div_div_eq_div_mul, ← Nat.div_div_eq_div_mul, by_div (by omega), by_div (by omega), by_div (by omega), by_div (by omega)]
  have ez2 : z = by_n [d0 + d1 + (d2 + d3) + (d4 + d5 + (d6 + d7)), d1 + d2 + (d3 + d4) + (d5 + d6 + d7), d2 + d3 + (d4 + d5) + (d6 + d7), d3 + d4 + (d5 + d6) + d7, d4 + d5 + (d6 + d7), d5 + d6 + d7, d6 + d7, d7] := by
    rw [ez, q3, ec2]; simp only [by_n]; omega
  have hlt : ∀ l : List Nat, l.length = 8 → (∀ x ∈ l, x < 2 ^ 8) → by_n l < 2 ^ 64 := fun l h8 h => by
    have := by_lt l h
    rw [h8] at this
    exact this
  refine ⟨?_, ?_, ?_, ?_⟩
  · rw [ez2, by_n]
    generalize by_n [d1 + d2 + (d3 + d4) + (d5 + d6 + d7), d2 + d3 + (d4 + d5) + (d6 + d7), d3 + d4 + (d5 + d6) + d7, d4 + d5 + (d6 + d7), d5 + d6 + d7, d6 + d7, d7] = K
    omega
  · rw [ez2]
    refine hlt _ rfl (fun x hx => ?_)
    simp only [List.mem_cons, List.not_mem_nil, or_false] at hx
    omega
  · rw [ec2]
    refine hlt _ rfl (fun x hx => ?_)
    simp only [List.mem_cons, List.not_mem_nil, or_false] at hx
    omega
  · rw [eb2]
    refine hlt _ rfl (fun x hx => ?_)
    simp only [List.mem_cons, List.not_mem_nil, or_false] at hx
    omega
theorem bc_tb {n : Nat} (h : n < 2 ^ 64) (r : Nat) : tb_b (lN n) r = n.testBit r := by
  unfold tb_b
  rw [wb_tb, BitVec.getLsbD_ofNat]
  by_cases hr : r < 64
  · simp [hr]
  · simp only [hr, decide_false, Bool.false_and]
    exact (Nat.testBit_lt_two_pow (Nat.lt_of_lt_of_le h (Nat.pow_le_pow_right (by omega) (by omega)))).symm
/-- THE LIBRARY'S bitCount, its seven values named -/
theorem bc_main {x i1 i2 i3 i4 i5 i6 : Int64}
    (e1 : i1 = x - ((x.toUInt64 >>> ((nI 1).toInt64.toUInt64 &&& Int64.toUInt64 63)).toInt64 &&& 0x5555555555555555))
    (e2 : i2 = (i1 &&& 0x3333333333333333) + ((i1.toUInt64 >>> ((nI 2).toInt64.toUInt64 &&& Int64.toUInt64 63)).toInt64 &&& 0x3333333333333333))
    (e3 : i3 = (i2 + (i2.toUInt64 >>> ((nI 4).toInt64.toUInt64 &&& Int64.toUInt64 63)).toInt64) &&& 0x0f0f0f0f0f0f0f0f)
    (e4 : i4 = i3 + (i3.toUInt64 >>> ((nI 8).toInt64.toUInt64 &&& Int64.toUInt64 63)).toInt64)
    (e5 : i5 = i4 + (i4.toUInt64 >>> ((nI 16).toInt64.toUInt64 &&& Int64.toUInt64 63)).toInt64)
    (e6 : i6 = i5 + (i5.toUInt64 >>> ((nI 32).toInt64.toUInt64 &&& Int64.toUInt64 63)).toInt64) :
    i6.toInt32 &&& nI 127 = nI (ct_n (tb_b x) 64) := by
  obtain ⟨n, hn, rfl⟩ := wb_of x
  obtain ⟨b0, b1, b2, b3, b4, b5, b6, b7, hb, rfl⟩ := by_8 n hn
  have hlt : ∀ l : List Nat, l.length = 8 → (∀ b ∈ l, b < 2 ^ 8) → by_n l < 2 ^ 64 := fun l h8 h => by
    have := by_lt l h
    rw [h8] at this
    exact this
  rw [wb_shr hn (by omega), bc_s1 _ rfl hb] at e1
  have hb1 : ∀ b ∈ [b0, b1, b2, b3, b4, b5, b6, b7].map g1_b, b < 2 ^ 8 := fun b h => by
    obtain ⟨c, h1, rfl⟩ := List.mem_map.mp h
    exact (g1_ok c (hb c h1)).2
  rw [e1, wb_shr (hlt _ rfl hb1) (by omega), bc_s2 _ rfl hb1] at e2
  have hb2 : ∀ b ∈ ([b0, b1, b2, b3, b4, b5, b6, b7].map g1_b).map g2_b, b < 69 ∧ b % 16 < 5 := fun b h => by
    obtain ⟨c, h1, rfl⟩ := List.mem_map.mp h
    obtain ⟨d, h2, rfl⟩ := List.mem_map.mp h1
    exact g2_ok d (hb d h2)
  rw [e2, wb_shr (hlt _ rfl (fun b h => Nat.lt_trans (hb2 b h).1 (by decide))) (by omega), bc_s3 _ rfl hb2] at e3
  have hb3 : ∀ b ∈ [b0, b1, b2, b3, b4, b5, b6, b7], g3_b (g2_b (g1_b b)) = ct_n b.testBit 8 ∧ g3_b (g2_b (g1_b b)) ≤ 8 := fun b h => by
    have := g3_ok b (hb b h)
    exact ⟨this, by rw [this]; exact ct_le _ 8⟩
  have g0 := hb3 b0 (by simp)
  have g1 := hb3 b1 (by simp)
  have g2 := hb3 b2 (by simp)
  have g3 := hb3 b3 (by simp)
  have g4 := hb3 b4 (by simp)
  have g5 := hb3 b5 (by simp)
  have g6 := hb3 b6 (by simp)
  have g7 := hb3 b7 (by simp)
  have hz := @bc_s4 _ _ _ _ _ _ _ _ _ _ _ _ g0.2 g1.2 g2.2 g3.2 g4.2 g5.2 g6.2 g7.2 rfl rfl rfl rfl
  have hA : by_n ((([b0, b1, b2, b3, b4, b5, b6, b7].map g1_b).map g2_b).map g3_b) < 2 ^ 64 := hlt _ rfl (fun b h => by
    obtain ⟨c, h1, rfl⟩ := List.mem_map.mp h
    have : ∀ c, g3_b c ≤ 15 := fun c => Nat.and_le_right
    exact Nat.lt_of_le_of_lt (this c) (by decide))
  generalize hAe : by_n ((([b0, b1, b2, b3, b4, b5, b6, b7].map g1_b).map g2_b).map g3_b) = A at e3 hA
  change by_n [g3_b (g2_b (g1_b b0)), g3_b (g2_b (g1_b b1)), g3_b (g2_b (g1_b b2)), g3_b (g2_b (g1_b b3)), g3_b (g2_b (g1_b b4)), g3_b (g2_b (g1_b b5)), g3_b (g2_b (g1_b b6)), g3_b (g2_b (g1_b b7))] = A at hAe
  rw [hAe] at hz
  rw [e3, wb_shr hA (by omega), lN_add] at e4
  rw [e4, wb_shr hz.2.2.2 (by omega), lN_add] at e5
  rw [e5, wb_shr hz.2.2.1 (by omega), lN_add] at e6
  rw [e6, lN_i, pk_and _ (m := nI 127) 7 (by decide)]
  congr 1
  have ht : ∀ Z : Nat, (nI Z).toBitVec.toNat = Z % 2 ^ 32 := fun Z => rfl
  rw [ht, hz.1, ct_congr (fun i _ => bc_tb hn i), show (64 : Nat) = 8 * [b0, b1, b2, b3, b4, b5, b6, b7].length from rfl, by_ct _ hb]
  simp only [List.map_cons, List.map_nil, List.sum_cons, List.sum_nil, g0.1, g1.1, g2.1, g3.1, g4.1, g5.1, g6.1, g7.1]
  omega
end
section
/-- a proposition as a truth value -/
noncomputable def bx_b (p : Prop) : Bool := @decide p (Classical.propDecidable p)
theorem bx_iff {p : Prop} : bx_b p = true ↔ p := by unfold bx_b; exact @decide_eq_true_iff p (Classical.propDecidable p)
theorem bx_neg {p : Prop} : bx_b p = false ↔ ¬ p := by unfold bx_b; exact @decide_eq_false_iff_not p (Classical.propDecidable p)
theorem bx_eq {p : Prop} {b : Bool} (h : p ↔ b = true) : bx_b p = b := by
  cases b with
  | true => exact bx_iff.mpr (h.mpr rfl)
  | false => exact bx_neg.mpr (fun q => by have := h.mp q; simp at this)
theorem bx_congr {p q : Prop} (h : p ↔ q) : bx_b p = bx_b q := bx_eq (h.trans bx_iff.symm)
theorem bl_eq {a b : Bool} (h : a = true ↔ b = true) : a = b := by cases a <;> cases b <;> simp_all
/-- a truth value as an int of the machine -/
def b01 (b : Bool) : Int32 := if b = true then nI 1 else nI 0
theorem b01_t : b01 true = nI 1 := rfl
theorem b01_f : b01 false = nI 0 := rfl
theorem b01_or (b : Bool) : b01 b = nI 0 ∨ b01 b = nI 1 := by cases b <;> simp [b01]
theorem b01_ne {b : Bool} : ¬ b01 b = 0 ↔ b = true := by cases b <;> decide
theorem b01_eq {b : Bool} : b01 b = 0 ↔ b = false := by cases b <;> decide
/-- pigeons -/
theorem ph_h : ∀ (m : Nat) (f : Nat → Nat), (∀ i, i < m + 1 → f i < m) → ∃ i j, i < j ∧ j < m + 1 ∧ f i = f j := by
  intro m
  induction m with
  | zero => intro f h; exact absurd (h 0 (by omega)) (by omega)
  | succ m ih =>
    intro f h
    by_cases hx : ∃ i, i < m + 1 ∧ f i = f (m + 1)
    · obtain ⟨i, h1, h2⟩ := hx
      exact ⟨i, m + 1, h1, by omega, h2⟩
    · have hx' : ∀ i, i < m + 1 → f i ≠ f (m + 1) := fun i hi e => hx ⟨i, hi, e⟩
      have hc := h (m + 1) (by omega)
      obtain ⟨i, j, h1, h2, h3⟩ := ih (fun i => if f (m + 1) < f i then f i - 1 else f i) (fun i hi => by
        have a1 := h i (by omega)
        have a2 := hx' i hi
        try dsimp only
        split <;> omega)
      refine ⟨i, j, h1, by omega, ?_⟩
      have a1 := hx' i (by omega)
      have a2 := hx' j h2
      try dsimp only at h3
      split at h3 <;> split at h3 <;> omega
/-- the k-th above -/
def an_k (p : Nat → Nat) : Nat → Nat → Nat
  | 0, v => v
  | k + 1, v => an_k p k (p v)
theorem an_s (p : Nat → Nat) : ∀ (k v : Nat), an_k p (k + 1) v = p (an_k p k v) := by
  intro k
  induction k with
  | zero => intro v; rfl
  | succ k ih => intro v; exact ih (p v)
theorem an_add (p : Nat → Nat) : ∀ (i k v : Nat), an_k p (i + k) v = an_k p k (an_k p i v) := by
  intro i
  induction i with
  | zero => intro k v; rw [Nat.zero_add]; rfl
  | succ i ih => intro k v; rw [show i + 1 + k = (i + k) + 1 by omega]; exact ih k (p v)
/-- a tree: 100 stands for none; ranks fall upward -/
def tr_w (p : Nat → Nat) : Prop := (∀ v, p v ≤ 100) ∧ (∀ v, 100 ≤ v → p v = 100) ∧ ∃ ρ : Nat → Nat, ∀ v, v < 100 → p v < 100 → ρ (p v) < ρ v
/-- v lies on the way up from w -/
def ab_o (p : Nat → Nat) (w v : Nat) : Prop := ∃ k, an_k p k w = v
theorem ab_rf (p : Nat → Nat) (w : Nat) : ab_o p w w := ⟨0, rfl⟩
theorem ab_up {p : Nat → Nat} {w v : Nat} (h : ab_o p (p w) v) : ab_o p w v := by
  obtain ⟨k, h⟩ := h
  exact ⟨k + 1, h⟩
theorem ab_cs {p : Nat → Nat} {w v : Nat} : ab_o p w v ↔ w = v ∨ ab_o p (p w) v := by
  constructor
  · rintro ⟨k, h⟩
    cases k with
    | zero => exact Or.inl h
    | succ k => exact Or.inr ⟨k, h⟩
  · rintro (h | h)
    · exact ⟨0, h⟩
    · exact ab_up h
theorem ab_tr {p : Nat → Nat} {u v w : Nat} (h1 : ab_o p u v) (h2 : ab_o p v w) : ab_o p u w := by
  obtain ⟨i, h1⟩ := h1
  obtain ⟨k, h2⟩ := h2
  exact ⟨i + k, by rw [an_add, h1, h2]⟩
theorem an_out {p : Nat → Nat} (hp : ∀ v, 100 ≤ v → p v = 100) : ∀ (k v : Nat), 100 ≤ v → 100 ≤ an_k p k v := by
  intro k
  induction k with
  | zero => intro v h; exact h
  | succ k ih => intro v h; exact ih (p v) (by rw [hp v h]; exact Nat.le_refl _)
theorem ab_out {p : Nat → Nat} (hp : ∀ v, 100 ≤ v → p v = 100) {w v : Nat} (hw : 100 ≤ w) (hv : v < 100) : ¬ ab_o p w v := by
  rintro ⟨k, h⟩
  have := an_out hp k w hw
  omega
/-- no way up is longer than a hundred -/
theorem an_100 {p : Nat → Nat} (ht : tr_w p) (w : Nat) : 100 ≤ an_k p 100 w := by
  obtain ⟨-, hp, ρ, hρ⟩ := ht
  by_cases hx : 100 ≤ an_k p 100 w
  · exact hx
  · exfalso
    have hlt : ∀ i, i < 101 → an_k p i w < 100 := by
      intro i hi
      by_cases hi2 : an_k p i w < 100
      · exact hi2
      · exfalso
        have h1 := an_out hp (100 - i) (an_k p i w) (by omega)
        rw [← an_add, show i + (100 - i) = 100 by omega] at h1
        exact hx h1
    have hdec : ∀ d i, i + d < 101 → 0 < d → ρ (an_k p (i + d) w) < ρ (an_k p i w) := by
      intro d
      induction d with
      | zero => intro i _ h; omega
      | succ d ih =>
        intro i h _
        have h1 := hlt (i + d + 1) (by omega)
        rw [an_s] at h1
        have h2 := hρ (an_k p (i + d) w) (hlt (i + d) (by omega)) h1
        rw [show i + (d + 1) = i + d + 1 by omega, an_s]
        by_cases hd : d = 0
        · subst hd
          exact h2
        · have h3 := ih i (by omega) (by omega)
          omega
    obtain ⟨i, j, h1, h2, h3⟩ := ph_h 100 (fun i => an_k p i w) (fun i hi => hlt i hi)
    try dsimp only at h3
    have h4 := hdec (j - i) i (by omega) (by omega)
    rw [show i + (j - i) = j by omega, h3] at h4
    omega
/-- a value put below another one that doesn't lie at or below it -/
theorem tr_set {p : Nat → Nat} (ht : tr_w p) {v b : Nat} (hv : v < 100) (hb : b ≤ 100) (hr : b < 100 → ¬ ab_o p b v) : tr_w (fun u => if u = v then b else p u) := by
  obtain ⟨h1, h2, ρ, hρ⟩ := ht
  refine ⟨fun u => ?_, fun u hu => ?_, fun u => if bx_b (ab_o p u v) = true then ρ u + ρ b + 1 else ρ u, fun u hu hpu => ?_⟩
  · dsimp only
    split
    · exact hb
    · exact h1 u
  · dsimp only
    rw [if_neg (by omega)]
    exact h2 u hu
  · dsimp only at hpu ⊢
    by_cases e : u = v
    · subst e
      rw [if_pos rfl] at hpu ⊢
      rw [if_neg (fun q => hr hpu (bx_iff.mp q)), if_pos (bx_iff.mpr (ab_rf p u))]
      omega
    · rw [if_neg e] at hpu ⊢
      have h3 := hρ u hu hpu
      have h4 : ab_o p u v ↔ ab_o p (p u) v := by
        rw [ab_cs]
        constructor
        · rintro (h | h)
          · exact absurd h e
          · exact h
        · exact Or.inr
      rw [bx_congr h4]
      split <;> omega
/-- the abstract state: how many records, how many values; who has what; the trees; the hits; the chosen -/
abbrev ab_T : Type := (Nat × Nat) × (Nat → Nat → Nat → Bool) × (Nat → Nat → Nat) × (Nat → Bool) × (Nat → Nat → Bool)
abbrev a_n (a : ab_T) : Nat := a.1.1
abbrev a_v (a : ab_T) : Nat := a.1.2
abbrev a_own (a : ab_T) : Nat → Nat → Nat → Bool := a.2.1
abbrev a_par (a : ab_T) : Nat → Nat → Nat := a.2.2.1
abbrev a_hit (a : ab_T) : Nat → Bool := a.2.2.2.1
abbrev a_cho (a : ab_T) : Nat → Nat → Bool := a.2.2.2.2
def a_has (a : ab_T) (r f v : Nat) : Prop := ∃ w, w < 100 ∧ a_own a r f w = true ∧ ab_o (a_par a f) w v
def a_left (a : ab_T) (r : Nat) : Prop := a_hit a r = true ∧ ∀ f, f < 6 → (∃ v, v < 100 ∧ a_cho a f v = true) → ∃ v, v < 100 ∧ a_cho a f v = true ∧ a_has a r f v
def a_wf (a : ab_T) : Prop := a_n a ≤ 60 ∧ a_v a ≤ 400 ∧ (∀ r f v, a_own a r f v = true → 1 ≤ r ∧ r ≤ a_n a) ∧ (∀ r, a_hit a r = true → 1 ≤ r ∧ r ≤ a_n a) ∧ ∀ f, tr_w (a_par a f)
/-- a parent as the machine holds it -/
def en_p (u : Nat) : Int32 := if u < 100 then nI u else -1
theorem en_in {u : Nat} (h : u < 100) : en_p u = nI u := if_pos h
theorem en_no {u : Nat} (h : 100 ≤ u) : en_p u = -1 := if_neg (by omega)
theorem nI_m1 {j : Nat} (h : j < 2 ^ 31) : ¬ nI j = -1 := by
  intro e
  have h1 := nI_toInt h
  rw [e] at h1
  have h2 : (-1 : Int32).toInt = -1 := by decide
  omega
theorem en_m1 {u : Nat} : en_p u = -1 ↔ 100 ≤ u := by
  constructor
  · intro h
    rcases Nat.lt_or_ge u 100 with q | q
    · rw [en_in q] at h
      exact absurd h (nI_m1 (by omega))
    · exact q
  · exact en_no
theorem en_val {u : Nat} : (∃ j, j < 100 ∧ en_p u = nI j) ↔ u < 100 := by
  constructor
  · rintro ⟨j, h1, h2⟩
    rcases Nat.lt_or_ge u 100 with q | q
    · exact q
    · rw [en_no q] at h2
      exact absurd h2.symm (nI_m1 (by omega))
  · intro h
    exact ⟨u, h, en_in h⟩
theorem en_eq {u v : Nat} (hu : u ≤ 100) (hv : v ≤ 100) : en_p u = en_p v ↔ u = v := by
  constructor
  · intro h
    rcases Nat.lt_or_ge u 100 with q | q
    · rcases Nat.lt_or_ge v 100 with z | z
      · rw [en_in q, en_in z] at h
        exact (nI_eq (by omega) (by omega)).mp h
      · rw [en_no z] at h
        have := en_m1.mp h
        omega
    · rw [en_no q] at h
      have := en_m1.mp h.symm
      omega
  · rintro rfl
    rfl
/-- a walk up that has come out has met all -/
theorem ra_end {p : Nat → Nat} (ht : tr_w p) {k v c : Nat} (hk : k = 100 ∨ 100 ≤ an_k p k v) (hc : c < 100) : (∃ j, j < k ∧ an_k p j v = c) ↔ ab_o p v c := by
  constructor
  · rintro ⟨j, -, h⟩
    exact ⟨j, h⟩
  · rintro ⟨i, h⟩
    rcases Nat.lt_or_ge i k with q | q
    · exact ⟨i, q, h⟩
    · exfalso
      have h1 : 100 ≤ an_k p k v := by
        rcases hk with e | e
        · rw [e]; exact an_100 ht v
        · exact e
      have h2 := an_out ht.2.1 (i - k) (an_k p k v) h1
      rw [← an_add, show k + (i - k) = i by omega, h] at h2
      omega
end
section
/-- how many stand before v: more frequent ones, and of the same frequency those with a smaller number -/
def rk_b (c : Nat → Nat) (v : Nat) : Nat := ct_n (fun w => decide (c v < c w) || (decide (c w = c v) && decide (w < v))) 100
theorem rk_lt {c : Nat → Nat} {u v : Nat} (hu : u < 100) (h : c v < c u ∨ (c u = c v ∧ u < v)) : rk_b c u < rk_b c v := by
  refine ct_lt (k := u) (fun i _ hi => ?_) hu (by simp) (by simpa using h)
  simp only [Bool.or_eq_true, Bool.and_eq_true, decide_eq_true_eq] at hi ⊢
  omega
theorem rk_inj {c : Nat → Nat} {u v : Nat} (hu : u < 100) (hv : v < 100) (h : rk_b c u = rk_b c v) : u = v := by
  rcases Nat.lt_trichotomy (c u) (c v) with q | q | q
  · have := rk_lt (c := c) (u := v) (v := u) hv (Or.inl q)
    omega
  · rcases Nat.lt_trichotomy u v with z | z | z
    · have := rk_lt (c := c) (u := u) (v := v) hu (Or.inr ⟨q, z⟩)
      omega
    · exact z
    · have := rk_lt (c := c) (u := v) (v := u) hv (Or.inr ⟨q.symm, z⟩)
      omega
  · have := rk_lt (c := c) (u := u) (v := v) hu (Or.inl q)
    omega
theorem rk_le (c : Nat → Nat) (v : Nat) : rk_b c v ≤ 100 := ct_le _ _
/-- the answer: the value with just i before it, among those that are counted at all -/
def rk_res (c : Nat → Nat) (i r : Int32) : Prop := (∃ v, v < 100 ∧ 0 < c v ∧ nI (rk_b c v) = i ∧ r = nI v) ∨ (r = -1 ∧ ∀ v, v < 100 → 0 < c v → ¬ nI (rk_b c v) = i)
theorem rk_fun {c : Nat → Nat} {i r s : Int32} (h1 : rk_res c i r) (h2 : rk_res c i s) : r = s := by
  rcases h1 with ⟨u, hu, hu0, hui, rfl⟩ | ⟨rfl, h1⟩
  · rcases h2 with ⟨v, hv, hv0, hvi, rfl⟩ | ⟨rfl, h2⟩
    · have e : rk_b c u = rk_b c v := (nI_eq (by have := rk_le c u; omega) (by have := rk_le c v; omega)).mp (hui.trans hvi.symm)
      rw [rk_inj hu hv e]
    · exact absurd hui (h2 u hu hu0)
  · rcases h2 with ⟨v, hv, hv0, hvi, rfl⟩ | ⟨rfl, h2⟩
    · exact absurd hvi (h1 v hv hv0)
    · rfl
theorem rk_congr {c d : Nat → Nat} {i r : Int32} (h : ∀ v, v < 100 → c v = d v) (hr : rk_res c i r) : rk_res d i r := by
  have hb : ∀ v, v < 100 → rk_b c v = rk_b d v := fun v hv => ct_congr (fun w hw => by rw [h v hv, h w hw])
  rcases hr with ⟨v, hv, h0, hi, rfl⟩ | ⟨rfl, h1⟩
  · exact Or.inl ⟨v, hv, by rw [← h v hv]; exact h0, by rw [← hb v hv]; exact hi, rfl⟩
  · exact Or.inr ⟨rfl, fun v hv h0 => by rw [← hb v hv]; exact h1 v hv (by rw [h v hv]; exact h0)⟩
/-- going down the counts: how many were passed at (m, v) -/
def rk_p (c : Nat → Nat) (m v : Nat) : Nat := ct_n (fun w => decide (m < c w) || (decide (c w = m) && decide (w < v))) 100
theorem rk_p0 {c : Nat → Nat} (h : ∀ v, v < 100 → c v ≤ 60) : rk_p c 60 0 = 0 := ct_zero (fun w hw => by have := h w hw; simp; omega)
theorem rk_pb {c : Nat → Nat} {m v : Nat} (h : c v = m) : rk_p c m v = rk_b c v := by subst h; rfl
theorem rk_pt {c : Nat → Nat} {m v : Nat} (hv : v < 100) (h : c v = m) : rk_p c m (v + 1) = rk_p c m v + 1 := by
  refine ct_up hv (by simp [h]) (by simp [h]) (fun w _ hw => ?_)
  have : decide (w < v + 1) = decide (w < v) := by simp; omega
  rw [this]
theorem rk_pf {c : Nat → Nat} {m v : Nat} (h : ¬ c v = m) : rk_p c m (v + 1) = rk_p c m v := by
  refine ct_congr (fun w _ => ?_)
  by_cases e : w = v
  · subst e
    simp [h]
  · have : decide (w < v + 1) = decide (w < v) := by simp; omega
    rw [this]
theorem rk_pn {c : Nat → Nat} {m : Nat} : rk_p c (m + 1) 100 = rk_p c m 0 := by
  refine ct_congr (fun w hw => ?_)
  rw [Bool.eq_iff_iff]
  simp
  omega
theorem rk_ple (c : Nat → Nat) (m v : Nat) : rk_p c m v ≤ 100 := ct_le _ _
/-- the largest that divides both -/
theorem gd_top {p a d : Nat} (ha : 0 < a) (h1 : p % d = 0) (h2 : a % d = 0) (hd : 0 < d) (h : ∀ e, d < e → e ≤ a → ¬ (p % e = 0 ∧ a % e = 0)) : d = Nat.gcd p a := by
  have g1 : d ∣ Nat.gcd p a := Nat.dvd_gcd (Nat.dvd_of_mod_eq_zero h1) (Nat.dvd_of_mod_eq_zero h2)
  have g2 : 0 < Nat.gcd p a := Nat.gcd_pos_of_pos_right p ha
  have g3 : d ≤ Nat.gcd p a := Nat.le_of_dvd g2 g1
  have g4 : Nat.gcd p a ≤ a := Nat.le_of_dvd ha (Nat.gcd_dvd_right p a)
  rcases Nat.lt_or_ge d (Nat.gcd p a) with q | q
  · exact absurd ⟨Nat.mod_eq_zero_of_dvd (Nat.gcd_dvd_left p a), Nat.mod_eq_zero_of_dvd (Nat.gcd_dvd_right p a)⟩ (h _ q g4)
  · omega
end
section
/-- an int of the machine as a number below N -/
def ix_o (N : Nat) (x : Int32) : Option Nat := if 0 ≤ x.toInt ∧ x.toInt < N then some x.toInt.toNat else none
theorem ix_in {j N : Nat} (h : j < N) (hN : N < 2 ^ 31) : ix_o N (nI j) = some j := by
  have e := nI_toInt (show j < 2 ^ 31 by omega)
  unfold ix_o
  rw [e, if_pos (by omega)]
  simp
theorem ix_no {x : Int32} {N : Nat} (hN : N < 2 ^ 31) (h : ¬ ∃ j, j < N ∧ x = nI j) : ix_o N x = none := by
  unfold ix_o
  rw [if_neg]
  intro q
  refine h ⟨x.toInt.toNat, by omega, ?_⟩
  apply Int32.toInt_inj.mp
  rw [nI_toInt (by omega)]
  omega
/-- a record's number: 1 .. n -/
def rc_o (n : Nat) (x : Int32) : Option Nat := if 1 ≤ x.toInt ∧ x.toInt ≤ n then some x.toInt.toNat else none
theorem rc_in {j n : Nat} (h1 : 1 ≤ j) (h : j ≤ n) (hN : n < 2 ^ 31) : rc_o n (nI j) = some j := by
  have e := nI_toInt (show j < 2 ^ 31 by omega)
  unfold rc_o
  rw [e, if_pos (by omega)]
  simp
theorem rc_no {x : Int32} {n : Nat} (hN : n < 2 ^ 31) (h : ¬ ∃ j, 1 ≤ j ∧ j ≤ n ∧ x = nI j) : rc_o n x = none := by
  unfold rc_o
  rw [if_neg]
  intro q
  refine h ⟨x.toInt.toNat, by omega, by omega, ?_⟩
  apply Int32.toInt_inj.mp
  rw [nI_toInt (by omega)]
  omega
/-! the answers -/
noncomputable def sp_many (a : ab_T) : Nat := ct_n (fun r => bx_b (a_left a r)) 64
noncomputable def sp_cnt (a : ab_T) (f v : Nat) : Nat := ct_n (fun r => bx_b (a_left a r ∧ a_has a r f v)) 64
def a_rec (a : ab_T) : ab_T := ((a_n a + 1, a_v a), a_own a, a_par a, a_hit a, a_cho a)
def a_val (a : ab_T) (r f v : Nat) : ab_T := ((a_n a, a_v a + 1), (fun r2 f2 v2 => if r2 = r ∧ f2 = f ∧ v2 = v then true else a_own a r2 f2 v2), a_par a, a_hit a, a_cho a)
def a_gon (a : ab_T) (r f v : Nat) : ab_T := ((a_n a, a_v a - 1), (fun r2 f2 v2 => if r2 = r ∧ f2 = f ∧ v2 = v then false else a_own a r2 f2 v2), a_par a, a_hit a, a_cho a)
def a_nar (a : ab_T) (f v b : Nat) : ab_T := ((a_n a, a_v a), a_own a, (fun f2 v2 => if f2 = f ∧ v2 = v then b else a_par a f2 v2), a_hit a, a_cho a)
def a_hiS (a : ab_T) (r : Nat) (on : Bool) : ab_T := ((a_n a, a_v a), a_own a, a_par a, (fun r2 => if r2 = r then on else a_hit a r2), a_cho a)
def a_chS (a : ab_T) (f v : Nat) : ab_T := ((a_n a, a_v a), a_own a, a_par a, a_hit a, (fun f2 v2 => if f2 = f ∧ v2 = v then !a_cho a f2 v2 else a_cho a f2 v2))
def sp_record (a : ab_T) : Int32 × ab_T := if a_n a = 60 then (nI 0, a) else (nI (a_n a + 1), a_rec a)
def sp_value (a : ab_T) (x y z : Int32) : Int32 × ab_T := match rc_o (a_n a) x, ix_o 6 y, ix_o 100 z with
  | some r, some f, some v => if a_own a r f v = true ∨ a_v a = 400 then (nI 0, a) else (nI (ct_n (fun u => a_own (a_val a r f v) r f u) 100), a_val a r f v)
  | _, _, _ => (nI 0, a)
def sp_gone (a : ab_T) (x y z : Int32) : Int32 × ab_T := match rc_o (a_n a) x, ix_o 6 y, ix_o 100 z with
  | some r, some f, some v => if a_own a r f v = true then (nI 1, a_gon a r f v) else (nI 0, a)
  | _, _, _ => (nI 0, a)
noncomputable def sp_narrower (a : ab_T) (y z b : Int32) : Int32 × ab_T := match ix_o 6 y, ix_o 100 z with
  | some f, some v => if b = -1 then (nI 1, a_nar a f v 100) else match ix_o 100 b with
    | some u => if bx_b (ab_o (a_par a f) u v) = true then (nI 0, a) else (nI 1, a_nar a f v u)
    | none => (nI 0, a)
  | _, _ => (nI 0, a)
def sp_hit (a : ab_T) (x : Int32) (on : Bool) : Int32 × ab_T := match rc_o (a_n a) x with
  | some r => (nI (ct_n (a_hit (a_hiS a r on)) 64), a_hiS a r on)
  | none => (-1, a)
noncomputable def sp_choose (a : ab_T) (y z : Int32) : Int32 × ab_T := match ix_o 6 y, ix_o 100 z with
  | some f, some v => (nI (sp_many (a_chS a f v)), a_chS a f v)
  | _, _ => (-1, a)
noncomputable def sp_count (a : ab_T) (y z : Int32) : Int32 := match ix_o 6 y, ix_o 100 z with
  | some f, some v => nI (sp_cnt a f v)
  | _, _ => -1
noncomputable def sp_top (a : ab_T) (y i r : Int32) : Prop := match ix_o 6 y with
  | some f => rk_res (sp_cnt a f) i r
  | none => r = -1
noncomputable def sp_flt (a : ab_T) (f p : Nat) : Nat → Nat := fun w => if a_par a f w = p then sp_cnt a f w else 0
noncomputable def sp_below (a : ab_T) (y : Int32) (roots : Bool) (z i r : Int32) : Prop := match ix_o 6 y with
  | some f => if roots = true then rk_res (sp_flt a f 100) i r else match ix_o 100 z with
    | some p => rk_res (sp_flt a f p) i r
    | none => r = -1
  | none => r = -1
noncomputable def sp_band (a : ab_T) (y lo hi : Int32) : Int32 := match ix_o 6 y with
  | some f => if hi < lo then -1 else nI (ct_n (fun r => bx_b (a_left a r ∧ ∃ v : Nat, v < 100 ∧ lo.toInt ≤ (v : Int) ∧ (v : Int) ≤ hi.toInt ∧ a_own a r f v = true)) 64)
  | none => -1
noncomputable def sp_missing (a : ab_T) (y : Int32) : Int32 := match ix_o 6 y with
  | some f => nI (ct_n (fun r => bx_b (a_left a r ∧ ¬ ∃ v, v < 100 ∧ a_own a r f v = true)) 64)
  | none => -1
/-- the i-th that is left: r has just i before it -/
def sp_left (a : ab_T) (i q : Int32) : Prop := (∃ r, r < 64 ∧ a_left a r ∧ nI (ct_n (fun s => bx_b (a_left a s)) r) = i ∧ q = nI r) ∨ (q = nI 0 ∧ ∀ r, r < 64 → a_left a r → ¬ nI (ct_n (fun s => bx_b (a_left a s)) r) = i)
/-- a share: none is left: it throws -/
noncomputable def sp_share (a : ab_T) (y z side : Int32) : Option Int64 := match ix_o 6 y, ix_o 100 z with
  | some f, some v => if sp_many a = 0 then none else
      some (if side = 0 then lN (sp_cnt a f v / Nat.gcd (sp_cnt a f v) (sp_many a)) else lN (sp_many a / Nat.gcd (sp_cnt a f v) (sp_many a)))
  | _, _ => some (-1)
/-! the class's state and the reference's, and how they hold the abstract one -/
abbrev sx_T : Type := ((Nat → Int64) × (Nat → Int64) × (Nat → Int32) × (Nat → Int32) × (Nat → Int32)) × (Int32 × Int32 × Int64)
abbrev x_hold (σ : sx_T) : Nat → Int64 := σ.1.1
abbrev x_hav (σ : sx_T) : Nat → Int64 := σ.1.2.1
abbrev x_bro (σ : sx_T) : Nat → Int32 := σ.1.2.2.1
abbrev x_cho (σ : sx_T) : Nat → Int32 := σ.1.2.2.2.1
abbrev x_cnt (σ : sx_T) : Nat → Int32 := σ.1.2.2.2.2
abbrev x_rec (σ : sx_T) : Int32 := σ.2.1
abbrev x_held (σ : sx_T) : Int32 := σ.2.2.1
abbrev x_hits (σ : sx_T) : Int64 := σ.2.2.2
def rx_r (a : ab_T) (σ : sx_T) : Prop := x_rec σ = nI (a_n a) ∧ x_held σ = nI (a_v a) ∧
  (∀ f v r, f < 6 → v < 100 → r < 64 → tb_b (x_hold σ (f * 100 + v)) r = a_own a r f v) ∧
  (∀ f v r, f < 6 → v < 100 → r < 64 → tb_b (x_hav σ (f * 100 + v)) r = bx_b (a_has a r f v)) ∧
  (∀ f v, f < 6 → v < 100 → x_bro σ (f * 100 + v) = en_p (a_par a f v)) ∧
  (∀ f v, f < 6 → v < 100 → x_cho σ (f * 100 + v) = b01 (a_cho a f v)) ∧
  (∀ r, r < 64 → tb_b (x_hits σ) r = a_hit a r)
abbrev sm_T : Type := ((Nat → Int32) × (Nat → Int32) × (Nat → Int32) × (Nat → Int32) × (Nat → Int32) × (Nat → Int32) × (Nat → Int32) × (Nat → Int32) × (Nat → Int32)) × (Int32 × Int32 × Int32 × Int32)
abbrev m_rows (τ : sm_T) : Nat → Int32 := τ.1.1
abbrev m_bro (τ : sm_T) : Nat → Int32 := τ.1.2.1
abbrev m_hits (τ : sm_T) : Nat → Int32 := τ.1.2.2.1
abbrev m_cho (τ : sm_T) : Nat → Int32 := τ.1.2.2.2.1
abbrev m_cnt (τ : sm_T) : Nat → Int32 := τ.1.2.2.2.2.1
abbrev m_mrk (τ : sm_T) : Nat → Int32 := τ.1.2.2.2.2.2.1
abbrev m_any (τ : sm_T) : Nat → Int32 := τ.1.2.2.2.2.2.2.1
abbrev m_one (τ : sm_T) : Nat → Int32 := τ.1.2.2.2.2.2.2.2.1
abbrev m_lft (τ : sm_T) : Nat → Int32 := τ.1.2.2.2.2.2.2.2.2
abbrev m_thr (τ : sm_T) : Int32 := τ.2.1
abbrev m_rec (τ : sm_T) : Int32 := τ.2.2.1
abbrev m_val (τ : sm_T) : Int32 := τ.2.2.2.1
abbrev m_man (τ : sm_T) : Int32 := τ.2.2.2.2
def rm_r (a : ab_T) (R : Nat → Nat × Nat × Nat) (τ : sm_T) : Prop := m_rec τ = nI (a_n a) ∧ m_val τ = nI (a_v a) ∧
  (∀ k, k < a_v a → 1 ≤ (R k).1 ∧ (R k).1 ≤ a_n a ∧ (R k).2.1 < 6 ∧ (R k).2.2 < 100 ∧ m_rows τ (3 * k) = nI (R k).1 ∧ m_rows τ (3 * k + 1) = nI (R k).2.1 ∧ m_rows τ (3 * k + 2) = nI (R k).2.2) ∧
  (∀ r f v, ct_n (fun k => decide (R k = (r, f, v))) (a_v a) = if a_own a r f v = true then 1 else 0) ∧
  (∀ f v, f < 6 → v < 100 → m_bro τ (100 * f + v) = en_p (a_par a f v)) ∧
  (∀ f v, f < 6 → v < 100 → m_cho τ (100 * f + v) = b01 (a_cho a f v)) ∧
  (∀ r, 1 ≤ r → r ≤ 60 → m_hits τ r = b01 (a_hit a r))
end
section
theorem d_X_init_0 : decode b_X_init 0 = .ok (.aload_n 0, 1) := by decide +kernel
theorem d_X_init_1 : decode b_X_init 1 = .ok (.invokespecial 1, 3) := by decide +kernel
theorem d_X_init_4 : decode b_X_init 4 = .ok (.aload_n 0, 1) := by decide +kernel
theorem d_X_init_5 : decode b_X_init 5 = .ok (.sipush 600, 3) := by decide +kernel
theorem d_X_init_8 : decode b_X_init 8 = .ok (.newarray .long, 2) := by decide +kernel
theorem d_X_init_10 : decode b_X_init 10 = .ok (.putfield 9, 3) := by decide +kernel
theorem d_X_init_13 : decode b_X_init 13 = .ok (.aload_n 0, 1) := by decide +kernel
theorem d_X_init_14 : decode b_X_init 14 = .ok (.sipush 600, 3) := by decide +kernel
theorem d_X_init_17 : decode b_X_init 17 = .ok (.newarray .long, 2) := by decide +kernel
theorem d_X_init_19 : decode b_X_init 19 = .ok (.putfield 13, 3) := by decide +kernel
theorem d_X_init_22 : decode b_X_init 22 = .ok (.aload_n 0, 1) := by decide +kernel
theorem d_X_init_23 : decode b_X_init 23 = .ok (.sipush 600, 3) := by decide +kernel
theorem d_X_init_26 : decode b_X_init 26 = .ok (.newarray .int, 2) := by decide +kernel
theorem d_X_init_28 : decode b_X_init 28 = .ok (.putfield 16, 3) := by decide +kernel
theorem d_X_init_31 : decode b_X_init 31 = .ok (.aload_n 0, 1) := by decide +kernel
theorem d_X_init_32 : decode b_X_init 32 = .ok (.getfield 16, 3) := by decide +kernel
theorem d_X_init_35 : decode b_X_init 35 = .ok (.iconst (-1), 1) := by decide +kernel
theorem d_X_init_36 : decode b_X_init 36 = .ok (.invokestatic 20, 3) := by decide +kernel
theorem d_X_init_39 : decode b_X_init 39 = .ok (.aload_n 0, 1) := by decide +kernel
theorem d_X_init_40 : decode b_X_init 40 = .ok (.sipush 600, 3) := by decide +kernel
theorem d_X_init_43 : decode b_X_init 43 = .ok (.newarray .boolean, 2) := by decide +kernel
theorem d_X_init_45 : decode b_X_init 45 = .ok (.putfield 26, 3) := by decide +kernel
theorem d_X_init_48 : decode b_X_init 48 = .ok (.aload_n 0, 1) := by decide +kernel
theorem d_X_init_49 : decode b_X_init 49 = .ok (.bipush 100, 2) := by decide +kernel
theorem d_X_init_51 : decode b_X_init 51 = .ok (.newarray .int, 2) := by decide +kernel
theorem d_X_init_53 : decode b_X_init 53 = .ok (.putfield 30, 3) := by decide +kernel
theorem d_X_init_56 : decode b_X_init 56 = .ok (.aload_n 0, 1) := by decide +kernel
theorem d_X_init_57 : decode b_X_init 57 = .ok (.iconst 0, 1) := by decide +kernel
theorem d_X_init_58 : decode b_X_init 58 = .ok (.putfield 33, 3) := by decide +kernel
theorem d_X_init_61 : decode b_X_init 61 = .ok (.aload_n 0, 1) := by decide +kernel
theorem d_X_init_62 : decode b_X_init 62 = .ok (.iconst 0, 1) := by decide +kernel
theorem d_X_init_63 : decode b_X_init 63 = .ok (.putfield 37, 3) := by decide +kernel
theorem d_X_init_66 : decode b_X_init 66 = .ok (.aload_n 0, 1) := by decide +kernel
theorem d_X_init_67 : decode b_X_init 67 = .ok (.lconst 0, 1) := by decide +kernel
theorem d_X_init_68 : decode b_X_init 68 = .ok (.putfield 40, 3) := by decide +kernel
theorem d_X_init_71 : decode b_X_init 71 = .ok (.return_, 1) := by decide +kernel
theorem d_JA_fill_0 : decode b_JA_fill 0 = .ok (.iconst 0, 1) := by decide +kernel
theorem d_JA_fill_1 : decode b_JA_fill 1 = .ok (.istore_n 2, 1) := by decide +kernel
theorem d_JA_fill_2 : decode b_JA_fill 2 = .ok (.aload_n 0, 1) := by decide +kernel
theorem d_JA_fill_3 : decode b_JA_fill 3 = .ok (.arraylength, 1) := by decide +kernel
theorem d_JA_fill_4 : decode b_JA_fill 4 = .ok (.istore_n 3, 1) := by decide +kernel
theorem d_JA_fill_5 : decode b_JA_fill 5 = .ok (.iload_n 2, 1) := by decide +kernel
theorem d_JA_fill_6 : decode b_JA_fill 6 = .ok (.iload_n 3, 1) := by decide +kernel
theorem d_JA_fill_7 : decode b_JA_fill 7 = .ok (.if_icmp .ge 13, 3) := by decide +kernel
theorem d_JA_fill_10 : decode b_JA_fill 10 = .ok (.aload_n 0, 1) := by decide +kernel
theorem d_JA_fill_11 : decode b_JA_fill 11 = .ok (.iload_n 2, 1) := by decide +kernel
theorem d_JA_fill_12 : decode b_JA_fill 12 = .ok (.iload_n 1, 1) := by decide +kernel
theorem d_JA_fill_13 : decode b_JA_fill 13 = .ok (.iastore, 1) := by decide +kernel
theorem d_JA_fill_14 : decode b_JA_fill 14 = .ok (.iinc 2 1, 3) := by decide +kernel
theorem d_JA_fill_17 : decode b_JA_fill 17 = .ok (.goto (-12), 3) := by decide +kernel
theorem d_JA_fill_20 : decode b_JA_fill 20 = .ok (.return_, 1) := by decide +kernel
theorem d_X_record_0 : decode b_X_record 0 = .ok (.aload_n 0, 1) := by decide +kernel
theorem d_X_record_1 : decode b_X_record 1 = .ok (.getfield 33, 3) := by decide +kernel
theorem d_X_record_4 : decode b_X_record 4 = .ok (.bipush 60, 2) := by decide +kernel
theorem d_X_record_6 : decode b_X_record 6 = .ok (.if_icmp .lt 5, 3) := by decide +kernel
theorem d_X_record_9 : decode b_X_record 9 = .ok (.iconst 0, 1) := by decide +kernel
theorem d_X_record_10 : decode b_X_record 10 = .ok (.ireturn, 1) := by decide +kernel
theorem d_X_record_11 : decode b_X_record 11 = .ok (.aload_n 0, 1) := by decide +kernel
theorem d_X_record_12 : decode b_X_record 12 = .ok (.dup, 1) := by decide +kernel
theorem d_X_record_13 : decode b_X_record 13 = .ok (.getfield 33, 3) := by decide +kernel
theorem d_X_record_16 : decode b_X_record 16 = .ok (.iconst 1, 1) := by decide +kernel
theorem d_X_record_17 : decode b_X_record 17 = .ok (.iadd, 1) := by decide +kernel
theorem d_X_record_18 : decode b_X_record 18 = .ok (.putfield 33, 3) := by decide +kernel
theorem d_X_record_21 : decode b_X_record 21 = .ok (.aload_n 0, 1) := by decide +kernel
theorem d_X_record_22 : decode b_X_record 22 = .ok (.getfield 33, 3) := by decide +kernel
theorem d_X_record_25 : decode b_X_record 25 = .ok (.ireturn, 1) := by decide +kernel
theorem d_X_value_0 : decode b_X_value 0 = .ok (.aload_n 0, 1) := by decide +kernel
theorem d_X_value_1 : decode b_X_value 1 = .ok (.iload_n 1, 1) := by decide +kernel
theorem d_X_value_2 : decode b_X_value 2 = .ok (.invokevirtual 44, 3) := by decide +kernel
theorem d_X_value_5 : decode b_X_value 5 = .ok (.ifCond .eq 17, 3) := by decide +kernel
theorem d_X_value_8 : decode b_X_value 8 = .ok (.iload_n 2, 1) := by decide +kernel
theorem d_X_value_9 : decode b_X_value 9 = .ok (.invokestatic 48, 3) := by decide +kernel
theorem d_X_value_12 : decode b_X_value 12 = .ok (.ifCond .eq 10, 3) := by decide +kernel
theorem d_X_value_15 : decode b_X_value 15 = .ok (.iload_n 3, 1) := by decide +kernel
theorem d_X_value_16 : decode b_X_value 16 = .ok (.invokestatic 51, 3) := by decide +kernel
theorem d_X_value_19 : decode b_X_value 19 = .ok (.ifCond .ne 5, 3) := by decide +kernel
theorem d_X_value_22 : decode b_X_value 22 = .ok (.iconst 0, 1) := by decide +kernel
theorem d_X_value_23 : decode b_X_value 23 = .ok (.ireturn, 1) := by decide +kernel
theorem d_X_value_24 : decode b_X_value 24 = .ok (.aload_n 0, 1) := by decide +kernel
theorem d_X_value_25 : decode b_X_value 25 = .ok (.iload_n 1, 1) := by decide +kernel
theorem d_X_value_26 : decode b_X_value 26 = .ok (.iload_n 2, 1) := by decide +kernel
theorem d_X_value_27 : decode b_X_value 27 = .ok (.iload_n 3, 1) := by decide +kernel
theorem d_X_value_28 : decode b_X_value 28 = .ok (.invokevirtual 54, 3) := by decide +kernel
theorem d_X_value_31 : decode b_X_value 31 = .ok (.ifCond .ne 13, 3) := by decide +kernel
theorem d_X_value_34 : decode b_X_value 34 = .ok (.aload_n 0, 1) := by decide +kernel
theorem d_X_value_35 : decode b_X_value 35 = .ok (.getfield 37, 3) := by decide +kernel
theorem d_X_value_38 : decode b_X_value 38 = .ok (.sipush 400, 3) := by decide +kernel
theorem d_X_value_41 : decode b_X_value 41 = .ok (.if_icmp .lt 5, 3) := by decide +kernel
theorem d_X_value_44 : decode b_X_value 44 = .ok (.iconst 0, 1) := by decide +kernel
theorem d_X_value_45 : decode b_X_value 45 = .ok (.ireturn, 1) := by decide +kernel
theorem d_X_value_46 : decode b_X_value 46 = .ok (.aload_n 0, 1) := by decide +kernel
theorem d_X_value_47 : decode b_X_value 47 = .ok (.getfield 9, 3) := by decide +kernel
theorem d_X_value_50 : decode b_X_value 50 = .ok (.iload_n 2, 1) := by decide +kernel
theorem d_X_value_51 : decode b_X_value 51 = .ok (.iload_n 3, 1) := by decide +kernel
theorem d_X_value_52 : decode b_X_value 52 = .ok (.invokestatic 58, 3) := by decide +kernel
theorem d_X_value_55 : decode b_X_value 55 = .ok (.dup2, 1) := by decide +kernel
theorem d_X_value_56 : decode b_X_value 56 = .ok (.laload, 1) := by decide +kernel
theorem d_X_value_57 : decode b_X_value 57 = .ok (.iload_n 1, 1) := by decide +kernel
theorem d_X_value_58 : decode b_X_value 58 = .ok (.invokestatic 62, 3) := by decide +kernel
theorem d_X_value_61 : decode b_X_value 61 = .ok (.lor, 1) := by decide +kernel
theorem d_X_value_62 : decode b_X_value 62 = .ok (.lastore, 1) := by decide +kernel
theorem d_X_value_63 : decode b_X_value 63 = .ok (.aload_n 0, 1) := by decide +kernel
theorem d_X_value_64 : decode b_X_value 64 = .ok (.dup, 1) := by decide +kernel
theorem d_X_value_65 : decode b_X_value 65 = .ok (.getfield 37, 3) := by decide +kernel
theorem d_X_value_68 : decode b_X_value 68 = .ok (.iconst 1, 1) := by decide +kernel
theorem d_X_value_69 : decode b_X_value 69 = .ok (.iadd, 1) := by decide +kernel
theorem d_X_value_70 : decode b_X_value 70 = .ok (.putfield 37, 3) := by decide +kernel
theorem d_X_value_73 : decode b_X_value 73 = .ok (.aload_n 0, 1) := by decide +kernel
theorem d_X_value_74 : decode b_X_value 74 = .ok (.iload_n 2, 1) := by decide +kernel
theorem d_X_value_75 : decode b_X_value 75 = .ok (.iload_n 3, 1) := by decide +kernel
theorem d_X_value_76 : decode b_X_value 76 = .ok (.iload_n 1, 1) := by decide +kernel
theorem d_X_value_77 : decode b_X_value 77 = .ok (.invokestatic 62, 3) := by decide +kernel
theorem d_X_value_80 : decode b_X_value 80 = .ok (.invokevirtual 66, 3) := by decide +kernel
theorem d_X_value_83 : decode b_X_value 83 = .ok (.aload_n 0, 1) := by decide +kernel
theorem d_X_value_84 : decode b_X_value 84 = .ok (.iload_n 1, 1) := by decide +kernel
theorem d_X_value_85 : decode b_X_value 85 = .ok (.iload_n 2, 1) := by decide +kernel
theorem d_X_value_86 : decode b_X_value 86 = .ok (.invokevirtual 70, 3) := by decide +kernel
theorem d_X_value_89 : decode b_X_value 89 = .ok (.ireturn, 1) := by decide +kernel
theorem d_X_isRecord_0 : decode b_X_isRecord 0 = .ok (.iload_n 1, 1) := by decide +kernel
theorem d_X_isRecord_1 : decode b_X_isRecord 1 = .ok (.iconst 1, 1) := by decide +kernel
theorem d_X_isRecord_2 : decode b_X_isRecord 2 = .ok (.if_icmp .lt 15, 3) := by decide +kernel
theorem d_X_isRecord_5 : decode b_X_isRecord 5 = .ok (.iload_n 1, 1) := by decide +kernel
theorem d_X_isRecord_6 : decode b_X_isRecord 6 = .ok (.aload_n 0, 1) := by decide +kernel
theorem d_X_isRecord_7 : decode b_X_isRecord 7 = .ok (.getfield 33, 3) := by decide +kernel
theorem d_X_isRecord_10 : decode b_X_isRecord 10 = .ok (.if_icmp .gt 7, 3) := by decide +kernel
theorem d_X_isRecord_13 : decode b_X_isRecord 13 = .ok (.iconst 1, 1) := by decide +kernel
theorem d_X_isRecord_14 : decode b_X_isRecord 14 = .ok (.goto 4, 3) := by decide +kernel
theorem d_X_isRecord_17 : decode b_X_isRecord 17 = .ok (.iconst 0, 1) := by decide +kernel
theorem d_X_isRecord_18 : decode b_X_isRecord 18 = .ok (.ireturn, 1) := by decide +kernel
theorem d_X_isFacet_0 : decode b_X_isFacet 0 = .ok (.iload_n 0, 1) := by decide +kernel
theorem d_X_isFacet_1 : decode b_X_isFacet 1 = .ok (.ifCond .lt 13, 3) := by decide +kernel
theorem d_X_isFacet_4 : decode b_X_isFacet 4 = .ok (.iload_n 0, 1) := by decide +kernel
theorem d_X_isFacet_5 : decode b_X_isFacet 5 = .ok (.bipush 6, 2) := by decide +kernel
theorem d_X_isFacet_7 : decode b_X_isFacet 7 = .ok (.if_icmp .ge 7, 3) := by decide +kernel
theorem d_X_isFacet_10 : decode b_X_isFacet 10 = .ok (.iconst 1, 1) := by decide +kernel
theorem d_X_isFacet_11 : decode b_X_isFacet 11 = .ok (.goto 4, 3) := by decide +kernel
theorem d_X_isFacet_14 : decode b_X_isFacet 14 = .ok (.iconst 0, 1) := by decide +kernel
theorem d_X_isFacet_15 : decode b_X_isFacet 15 = .ok (.ireturn, 1) := by decide +kernel
theorem d_X_isValue_0 : decode b_X_isValue 0 = .ok (.iload_n 0, 1) := by decide +kernel
theorem d_X_isValue_1 : decode b_X_isValue 1 = .ok (.ifCond .lt 13, 3) := by decide +kernel
theorem d_X_isValue_4 : decode b_X_isValue 4 = .ok (.iload_n 0, 1) := by decide +kernel
theorem d_X_isValue_5 : decode b_X_isValue 5 = .ok (.bipush 100, 2) := by decide +kernel
theorem d_X_isValue_7 : decode b_X_isValue 7 = .ok (.if_icmp .ge 7, 3) := by decide +kernel
theorem d_X_isValue_10 : decode b_X_isValue 10 = .ok (.iconst 1, 1) := by decide +kernel
theorem d_X_isValue_11 : decode b_X_isValue 11 = .ok (.goto 4, 3) := by decide +kernel
theorem d_X_isValue_14 : decode b_X_isValue 14 = .ok (.iconst 0, 1) := by decide +kernel
theorem d_X_isValue_15 : decode b_X_isValue 15 = .ok (.ireturn, 1) := by decide +kernel
theorem d_X_holds_0 : decode b_X_holds 0 = .ok (.aload_n 0, 1) := by decide +kernel
theorem d_X_holds_1 : decode b_X_holds 1 = .ok (.getfield 9, 3) := by decide +kernel
theorem d_X_holds_4 : decode b_X_holds 4 = .ok (.iload_n 2, 1) := by decide +kernel
theorem d_X_holds_5 : decode b_X_holds 5 = .ok (.iload_n 3, 1) := by decide +kernel
theorem d_X_holds_6 : decode b_X_holds 6 = .ok (.invokestatic 58, 3) := by decide +kernel
theorem d_X_holds_9 : decode b_X_holds 9 = .ok (.laload, 1) := by decide +kernel
theorem d_X_holds_10 : decode b_X_holds 10 = .ok (.iload_n 1, 1) := by decide +kernel
theorem d_X_holds_11 : decode b_X_holds 11 = .ok (.invokestatic 62, 3) := by decide +kernel
theorem d_X_holds_14 : decode b_X_holds 14 = .ok (.land, 1) := by decide +kernel
theorem d_X_holds_15 : decode b_X_holds 15 = .ok (.lconst 0, 1) := by decide +kernel
theorem d_X_holds_16 : decode b_X_holds 16 = .ok (.lcmp, 1) := by decide +kernel
theorem d_X_holds_17 : decode b_X_holds 17 = .ok (.ifCond .eq 7, 3) := by decide +kernel
theorem d_X_holds_20 : decode b_X_holds 20 = .ok (.iconst 1, 1) := by decide +kernel
theorem d_X_holds_21 : decode b_X_holds 21 = .ok (.goto 4, 3) := by decide +kernel
theorem d_X_holds_24 : decode b_X_holds 24 = .ok (.iconst 0, 1) := by decide +kernel
theorem d_X_holds_25 : decode b_X_holds 25 = .ok (.ireturn, 1) := by decide +kernel
theorem d_X_cell_0 : decode b_X_cell 0 = .ok (.iload_n 0, 1) := by decide +kernel
theorem d_X_cell_1 : decode b_X_cell 1 = .ok (.bipush 100, 2) := by decide +kernel
theorem d_X_cell_3 : decode b_X_cell 3 = .ok (.imul, 1) := by decide +kernel
theorem d_X_cell_4 : decode b_X_cell 4 = .ok (.iload_n 1, 1) := by decide +kernel
theorem d_X_cell_5 : decode b_X_cell 5 = .ok (.iadd, 1) := by decide +kernel
theorem d_X_cell_6 : decode b_X_cell 6 = .ok (.ireturn, 1) := by decide +kernel
theorem d_X_bit_0 : decode b_X_bit 0 = .ok (.lconst 1, 1) := by decide +kernel
theorem d_X_bit_1 : decode b_X_bit 1 = .ok (.iload_n 0, 1) := by decide +kernel
theorem d_X_bit_2 : decode b_X_bit 2 = .ok (.lshl, 1) := by decide +kernel
theorem d_X_bit_3 : decode b_X_bit 3 = .ok (.lreturn, 1) := by decide +kernel
theorem d_X_raise_0 : decode b_X_raise 0 = .ok (.iload_n 2, 1) := by decide +kernel
theorem d_X_raise_1 : decode b_X_raise 1 = .ok (.istore 5, 2) := by decide +kernel
theorem d_X_raise_3 : decode b_X_raise 3 = .ok (.iconst 0, 1) := by decide +kernel
theorem d_X_raise_4 : decode b_X_raise 4 = .ok (.istore 6, 2) := by decide +kernel
theorem d_X_raise_6 : decode b_X_raise 6 = .ok (.iload 6, 2) := by decide +kernel
theorem d_X_raise_8 : decode b_X_raise 8 = .ok (.bipush 100, 2) := by decide +kernel
theorem d_X_raise_10 : decode b_X_raise 10 = .ok (.if_icmp .ge 45, 3) := by decide +kernel
theorem d_X_raise_13 : decode b_X_raise 13 = .ok (.iload 5, 2) := by decide +kernel
theorem d_X_raise_15 : decode b_X_raise 15 = .ok (.invokestatic 51, 3) := by decide +kernel
theorem d_X_raise_18 : decode b_X_raise 18 = .ok (.ifCond .eq 37, 3) := by decide +kernel
theorem d_X_raise_21 : decode b_X_raise 21 = .ok (.aload_n 0, 1) := by decide +kernel
theorem d_X_raise_22 : decode b_X_raise 22 = .ok (.getfield 13, 3) := by decide +kernel
theorem d_X_raise_25 : decode b_X_raise 25 = .ok (.iload_n 1, 1) := by decide +kernel
theorem d_X_raise_26 : decode b_X_raise 26 = .ok (.iload 5, 2) := by decide +kernel
theorem d_X_raise_28 : decode b_X_raise 28 = .ok (.invokestatic 58, 3) := by decide +kernel
theorem d_X_raise_31 : decode b_X_raise 31 = .ok (.dup2, 1) := by decide +kernel
theorem d_X_raise_32 : decode b_X_raise 32 = .ok (.laload, 1) := by decide +kernel
theorem d_X_raise_33 : decode b_X_raise 33 = .ok (.lload_n 3, 1) := by decide +kernel
theorem d_X_raise_34 : decode b_X_raise 34 = .ok (.lor, 1) := by decide +kernel
theorem d_X_raise_35 : decode b_X_raise 35 = .ok (.lastore, 1) := by decide +kernel
theorem d_X_raise_36 : decode b_X_raise 36 = .ok (.aload_n 0, 1) := by decide +kernel
theorem d_X_raise_37 : decode b_X_raise 37 = .ok (.getfield 16, 3) := by decide +kernel
theorem d_X_raise_40 : decode b_X_raise 40 = .ok (.iload_n 1, 1) := by decide +kernel
theorem d_X_raise_41 : decode b_X_raise 41 = .ok (.iload 5, 2) := by decide +kernel
theorem d_X_raise_43 : decode b_X_raise 43 = .ok (.invokestatic 58, 3) := by decide +kernel
theorem d_X_raise_46 : decode b_X_raise 46 = .ok (.iaload, 1) := by decide +kernel
theorem d_X_raise_47 : decode b_X_raise 47 = .ok (.istore 5, 2) := by decide +kernel
theorem d_X_raise_49 : decode b_X_raise 49 = .ok (.iinc 6 1, 3) := by decide +kernel
theorem d_X_raise_52 : decode b_X_raise 52 = .ok (.goto (-46), 3) := by decide +kernel
theorem d_X_raise_55 : decode b_X_raise 55 = .ok (.return_, 1) := by decide +kernel
theorem d_X_heldOf_0 : decode b_X_heldOf 0 = .ok (.iconst 0, 1) := by decide +kernel
theorem d_X_heldOf_1 : decode b_X_heldOf 1 = .ok (.istore_n 3, 1) := by decide +kernel
theorem d_X_heldOf_2 : decode b_X_heldOf 2 = .ok (.iconst 0, 1) := by decide +kernel
theorem d_X_heldOf_3 : decode b_X_heldOf 3 = .ok (.istore 4, 2) := by decide +kernel
theorem d_X_heldOf_5 : decode b_X_heldOf 5 = .ok (.iload 4, 2) := by decide +kernel
theorem d_X_heldOf_7 : decode b_X_heldOf 7 = .ok (.bipush 100, 2) := by decide +kernel
theorem d_X_heldOf_9 : decode b_X_heldOf 9 = .ok (.if_icmp .ge 23, 3) := by decide +kernel
theorem d_X_heldOf_12 : decode b_X_heldOf 12 = .ok (.aload_n 0, 1) := by decide +kernel
theorem d_X_heldOf_13 : decode b_X_heldOf 13 = .ok (.iload_n 1, 1) := by decide +kernel
theorem d_X_heldOf_14 : decode b_X_heldOf 14 = .ok (.iload_n 2, 1) := by decide +kernel
theorem d_X_heldOf_15 : decode b_X_heldOf 15 = .ok (.iload 4, 2) := by decide +kernel
theorem d_X_heldOf_17 : decode b_X_heldOf 17 = .ok (.invokevirtual 54, 3) := by decide +kernel
theorem d_X_heldOf_20 : decode b_X_heldOf 20 = .ok (.ifCond .eq 6, 3) := by decide +kernel
theorem d_X_heldOf_23 : decode b_X_heldOf 23 = .ok (.iinc 3 1, 3) := by decide +kernel
theorem d_X_heldOf_26 : decode b_X_heldOf 26 = .ok (.iinc 4 1, 3) := by decide +kernel
theorem d_X_heldOf_29 : decode b_X_heldOf 29 = .ok (.goto (-24), 3) := by decide +kernel
theorem d_X_heldOf_32 : decode b_X_heldOf 32 = .ok (.iload_n 3, 1) := by decide +kernel
theorem d_X_heldOf_33 : decode b_X_heldOf 33 = .ok (.ireturn, 1) := by decide +kernel
theorem d_X_gone_0 : decode b_X_gone 0 = .ok (.aload_n 0, 1) := by decide +kernel
theorem d_X_gone_1 : decode b_X_gone 1 = .ok (.iload_n 1, 1) := by decide +kernel
theorem d_X_gone_2 : decode b_X_gone 2 = .ok (.invokevirtual 44, 3) := by decide +kernel
theorem d_X_gone_5 : decode b_X_gone 5 = .ok (.ifCond .eq 17, 3) := by decide +kernel
theorem d_X_gone_8 : decode b_X_gone 8 = .ok (.iload_n 2, 1) := by decide +kernel
theorem d_X_gone_9 : decode b_X_gone 9 = .ok (.invokestatic 48, 3) := by decide +kernel
theorem d_X_gone_12 : decode b_X_gone 12 = .ok (.ifCond .eq 10, 3) := by decide +kernel
theorem d_X_gone_15 : decode b_X_gone 15 = .ok (.iload_n 3, 1) := by decide +kernel
theorem d_X_gone_16 : decode b_X_gone 16 = .ok (.invokestatic 51, 3) := by decide +kernel
theorem d_X_gone_19 : decode b_X_gone 19 = .ok (.ifCond .ne 5, 3) := by decide +kernel
theorem d_X_gone_22 : decode b_X_gone 22 = .ok (.iconst 0, 1) := by decide +kernel
theorem d_X_gone_23 : decode b_X_gone 23 = .ok (.ireturn, 1) := by decide +kernel
theorem d_X_gone_24 : decode b_X_gone 24 = .ok (.aload_n 0, 1) := by decide +kernel
theorem d_X_gone_25 : decode b_X_gone 25 = .ok (.iload_n 1, 1) := by decide +kernel
theorem d_X_gone_26 : decode b_X_gone 26 = .ok (.iload_n 2, 1) := by decide +kernel
theorem d_X_gone_27 : decode b_X_gone 27 = .ok (.iload_n 3, 1) := by decide +kernel
theorem d_X_gone_28 : decode b_X_gone 28 = .ok (.invokevirtual 54, 3) := by decide +kernel
theorem d_X_gone_31 : decode b_X_gone 31 = .ok (.ifCond .ne 5, 3) := by decide +kernel
theorem d_X_gone_34 : decode b_X_gone 34 = .ok (.iconst 0, 1) := by decide +kernel
theorem d_X_gone_35 : decode b_X_gone 35 = .ok (.ireturn, 1) := by decide +kernel
theorem d_X_gone_36 : decode b_X_gone 36 = .ok (.aload_n 0, 1) := by decide +kernel
theorem d_X_gone_37 : decode b_X_gone 37 = .ok (.getfield 9, 3) := by decide +kernel
theorem d_X_gone_40 : decode b_X_gone 40 = .ok (.iload_n 2, 1) := by decide +kernel
theorem d_X_gone_41 : decode b_X_gone 41 = .ok (.iload_n 3, 1) := by decide +kernel
theorem d_X_gone_42 : decode b_X_gone 42 = .ok (.invokestatic 58, 3) := by decide +kernel
theorem d_X_gone_45 : decode b_X_gone 45 = .ok (.dup2, 1) := by decide +kernel
theorem d_X_gone_46 : decode b_X_gone 46 = .ok (.laload, 1) := by decide +kernel
theorem d_X_gone_47 : decode b_X_gone 47 = .ok (.iload_n 1, 1) := by decide +kernel
theorem d_X_gone_48 : decode b_X_gone 48 = .ok (.invokestatic 62, 3) := by decide +kernel
theorem d_X_gone_51 : decode b_X_gone 51 = .ok (.ldc2_w 73, 3) := by decide +kernel
theorem d_X_gone_54 : decode b_X_gone 54 = .ok (.lxor, 1) := by decide +kernel
theorem d_X_gone_55 : decode b_X_gone 55 = .ok (.land, 1) := by decide +kernel
theorem d_X_gone_56 : decode b_X_gone 56 = .ok (.lastore, 1) := by decide +kernel
theorem d_X_gone_57 : decode b_X_gone 57 = .ok (.aload_n 0, 1) := by decide +kernel
theorem d_X_gone_58 : decode b_X_gone 58 = .ok (.dup, 1) := by decide +kernel
theorem d_X_gone_59 : decode b_X_gone 59 = .ok (.getfield 37, 3) := by decide +kernel
theorem d_X_gone_62 : decode b_X_gone 62 = .ok (.iconst 1, 1) := by decide +kernel
theorem d_X_gone_63 : decode b_X_gone 63 = .ok (.isub, 1) := by decide +kernel
theorem d_X_gone_64 : decode b_X_gone 64 = .ok (.putfield 37, 3) := by decide +kernel
theorem d_X_gone_67 : decode b_X_gone 67 = .ok (.aload_n 0, 1) := by decide +kernel
theorem d_X_gone_68 : decode b_X_gone 68 = .ok (.iload_n 2, 1) := by decide +kernel
theorem d_X_gone_69 : decode b_X_gone 69 = .ok (.invokevirtual 75, 3) := by decide +kernel
theorem d_X_gone_72 : decode b_X_gone 72 = .ok (.iconst 1, 1) := by decide +kernel
theorem d_X_gone_73 : decode b_X_gone 73 = .ok (.ireturn, 1) := by decide +kernel
theorem d_X_raiseAll_0 : decode b_X_raiseAll 0 = .ok (.iconst 0, 1) := by decide +kernel
theorem d_X_raiseAll_1 : decode b_X_raiseAll 1 = .ok (.istore_n 2, 1) := by decide +kernel
theorem d_X_raiseAll_2 : decode b_X_raiseAll 2 = .ok (.iload_n 2, 1) := by decide +kernel
theorem d_X_raiseAll_3 : decode b_X_raiseAll 3 = .ok (.bipush 100, 2) := by decide +kernel
theorem d_X_raiseAll_5 : decode b_X_raiseAll 5 = .ok (.if_icmp .ge 20, 3) := by decide +kernel
theorem d_X_raiseAll_8 : decode b_X_raiseAll 8 = .ok (.aload_n 0, 1) := by decide +kernel
theorem d_X_raiseAll_9 : decode b_X_raiseAll 9 = .ok (.getfield 13, 3) := by decide +kernel
theorem d_X_raiseAll_12 : decode b_X_raiseAll 12 = .ok (.iload_n 1, 1) := by decide +kernel
theorem d_X_raiseAll_13 : decode b_X_raiseAll 13 = .ok (.iload_n 2, 1) := by decide +kernel
theorem d_X_raiseAll_14 : decode b_X_raiseAll 14 = .ok (.invokestatic 58, 3) := by decide +kernel
theorem d_X_raiseAll_17 : decode b_X_raiseAll 17 = .ok (.lconst 0, 1) := by decide +kernel
theorem d_X_raiseAll_18 : decode b_X_raiseAll 18 = .ok (.lastore, 1) := by decide +kernel
theorem d_X_raiseAll_19 : decode b_X_raiseAll 19 = .ok (.iinc 2 1, 3) := by decide +kernel
theorem d_X_raiseAll_22 : decode b_X_raiseAll 22 = .ok (.goto (-20), 3) := by decide +kernel
theorem d_X_raiseAll_25 : decode b_X_raiseAll 25 = .ok (.iconst 0, 1) := by decide +kernel
theorem d_X_raiseAll_26 : decode b_X_raiseAll 26 = .ok (.istore_n 2, 1) := by decide +kernel
theorem d_X_raiseAll_27 : decode b_X_raiseAll 27 = .ok (.iload_n 2, 1) := by decide +kernel
theorem d_X_raiseAll_28 : decode b_X_raiseAll 28 = .ok (.bipush 100, 2) := by decide +kernel
theorem d_X_raiseAll_30 : decode b_X_raiseAll 30 = .ok (.if_icmp .ge 33, 3) := by decide +kernel
theorem d_X_raiseAll_33 : decode b_X_raiseAll 33 = .ok (.aload_n 0, 1) := by decide +kernel
theorem d_X_raiseAll_34 : decode b_X_raiseAll 34 = .ok (.getfield 9, 3) := by decide +kernel
theorem d_X_raiseAll_37 : decode b_X_raiseAll 37 = .ok (.iload_n 1, 1) := by decide +kernel
theorem d_X_raiseAll_38 : decode b_X_raiseAll 38 = .ok (.iload_n 2, 1) := by decide +kernel
theorem d_X_raiseAll_39 : decode b_X_raiseAll 39 = .ok (.invokestatic 58, 3) := by decide +kernel
theorem d_X_raiseAll_42 : decode b_X_raiseAll 42 = .ok (.laload, 1) := by decide +kernel
theorem d_X_raiseAll_43 : decode b_X_raiseAll 43 = .ok (.lstore_n 3, 1) := by decide +kernel
theorem d_X_raiseAll_44 : decode b_X_raiseAll 44 = .ok (.lload_n 3, 1) := by decide +kernel
theorem d_X_raiseAll_45 : decode b_X_raiseAll 45 = .ok (.lconst 0, 1) := by decide +kernel
theorem d_X_raiseAll_46 : decode b_X_raiseAll 46 = .ok (.lcmp, 1) := by decide +kernel
theorem d_X_raiseAll_47 : decode b_X_raiseAll 47 = .ok (.ifCond .eq 10, 3) := by decide +kernel
theorem d_X_raiseAll_50 : decode b_X_raiseAll 50 = .ok (.aload_n 0, 1) := by decide +kernel
theorem d_X_raiseAll_51 : decode b_X_raiseAll 51 = .ok (.iload_n 1, 1) := by decide +kernel
theorem d_X_raiseAll_52 : decode b_X_raiseAll 52 = .ok (.iload_n 2, 1) := by decide +kernel
theorem d_X_raiseAll_53 : decode b_X_raiseAll 53 = .ok (.lload_n 3, 1) := by decide +kernel
theorem d_X_raiseAll_54 : decode b_X_raiseAll 54 = .ok (.invokevirtual 66, 3) := by decide +kernel
theorem d_X_raiseAll_57 : decode b_X_raiseAll 57 = .ok (.iinc 2 1, 3) := by decide +kernel
theorem d_X_raiseAll_60 : decode b_X_raiseAll 60 = .ok (.goto (-33), 3) := by decide +kernel
theorem d_X_raiseAll_63 : decode b_X_raiseAll 63 = .ok (.return_, 1) := by decide +kernel
theorem d_X_narrower_0 : decode b_X_narrower 0 = .ok (.iload_n 1, 1) := by decide +kernel
theorem d_X_narrower_1 : decode b_X_narrower 1 = .ok (.invokestatic 48, 3) := by decide +kernel
theorem d_X_narrower_4 : decode b_X_narrower 4 = .ok (.ifCond .eq 10, 3) := by decide +kernel
theorem d_X_narrower_7 : decode b_X_narrower 7 = .ok (.iload_n 2, 1) := by decide +kernel
theorem d_X_narrower_8 : decode b_X_narrower 8 = .ok (.invokestatic 51, 3) := by decide +kernel
theorem d_X_narrower_11 : decode b_X_narrower 11 = .ok (.ifCond .ne 5, 3) := by decide +kernel
theorem d_X_narrower_14 : decode b_X_narrower 14 = .ok (.iconst 0, 1) := by decide +kernel
theorem d_X_narrower_15 : decode b_X_narrower 15 = .ok (.ireturn, 1) := by decide +kernel
theorem d_X_narrower_16 : decode b_X_narrower 16 = .ok (.iload_n 3, 1) := by decide +kernel
theorem d_X_narrower_17 : decode b_X_narrower 17 = .ok (.iconst (-1), 1) := by decide +kernel
theorem d_X_narrower_18 : decode b_X_narrower 18 = .ok (.if_icmp .eq 22, 3) := by decide +kernel
theorem d_X_narrower_21 : decode b_X_narrower 21 = .ok (.iload_n 3, 1) := by decide +kernel
theorem d_X_narrower_22 : decode b_X_narrower 22 = .ok (.invokestatic 51, 3) := by decide +kernel
theorem d_X_narrower_25 : decode b_X_narrower 25 = .ok (.ifCond .eq 13, 3) := by decide +kernel
theorem d_X_narrower_28 : decode b_X_narrower 28 = .ok (.aload_n 0, 1) := by decide +kernel
theorem d_X_narrower_29 : decode b_X_narrower 29 = .ok (.iload_n 1, 1) := by decide +kernel
theorem d_X_narrower_30 : decode b_X_narrower 30 = .ok (.iload_n 3, 1) := by decide +kernel
theorem d_X_narrower_31 : decode b_X_narrower 31 = .ok (.iload_n 2, 1) := by decide +kernel
theorem d_X_narrower_32 : decode b_X_narrower 32 = .ok (.invokevirtual 79, 3) := by decide +kernel
theorem d_X_narrower_35 : decode b_X_narrower 35 = .ok (.ifCond .eq 5, 3) := by decide +kernel
theorem d_X_narrower_38 : decode b_X_narrower 38 = .ok (.iconst 0, 1) := by decide +kernel
theorem d_X_narrower_39 : decode b_X_narrower 39 = .ok (.ireturn, 1) := by decide +kernel
theorem d_X_narrower_40 : decode b_X_narrower 40 = .ok (.aload_n 0, 1) := by decide +kernel
theorem d_X_narrower_41 : decode b_X_narrower 41 = .ok (.getfield 16, 3) := by decide +kernel
theorem d_X_narrower_44 : decode b_X_narrower 44 = .ok (.iload_n 1, 1) := by decide +kernel
theorem d_X_narrower_45 : decode b_X_narrower 45 = .ok (.iload_n 2, 1) := by decide +kernel
theorem d_X_narrower_46 : decode b_X_narrower 46 = .ok (.invokestatic 58, 3) := by decide +kernel
theorem d_X_narrower_49 : decode b_X_narrower 49 = .ok (.iload_n 3, 1) := by decide +kernel
theorem d_X_narrower_50 : decode b_X_narrower 50 = .ok (.iastore, 1) := by decide +kernel
theorem d_X_narrower_51 : decode b_X_narrower 51 = .ok (.aload_n 0, 1) := by decide +kernel
theorem d_X_narrower_52 : decode b_X_narrower 52 = .ok (.iload_n 1, 1) := by decide +kernel
theorem d_X_narrower_53 : decode b_X_narrower 53 = .ok (.invokevirtual 75, 3) := by decide +kernel
theorem d_X_narrower_56 : decode b_X_narrower 56 = .ok (.iconst 1, 1) := by decide +kernel
theorem d_X_narrower_57 : decode b_X_narrower 57 = .ok (.ireturn, 1) := by decide +kernel
theorem d_X_isAtOrBelow_0 : decode b_X_isAtOrBelow 0 = .ok (.iload_n 2, 1) := by decide +kernel
theorem d_X_isAtOrBelow_1 : decode b_X_isAtOrBelow 1 = .ok (.istore 4, 2) := by decide +kernel
theorem d_X_isAtOrBelow_3 : decode b_X_isAtOrBelow 3 = .ok (.iconst 0, 1) := by decide +kernel
theorem d_X_isAtOrBelow_4 : decode b_X_isAtOrBelow 4 = .ok (.istore 5, 2) := by decide +kernel
theorem d_X_isAtOrBelow_6 : decode b_X_isAtOrBelow 6 = .ok (.iload 5, 2) := by decide +kernel
theorem d_X_isAtOrBelow_8 : decode b_X_isAtOrBelow 8 = .ok (.bipush 100, 2) := by decide +kernel
theorem d_X_isAtOrBelow_10 : decode b_X_isAtOrBelow 10 = .ok (.if_icmp .ge 38, 3) := by decide +kernel
theorem d_X_isAtOrBelow_13 : decode b_X_isAtOrBelow 13 = .ok (.iload 4, 2) := by decide +kernel
theorem d_X_isAtOrBelow_15 : decode b_X_isAtOrBelow 15 = .ok (.invokestatic 51, 3) := by decide +kernel
theorem d_X_isAtOrBelow_18 : decode b_X_isAtOrBelow 18 = .ok (.ifCond .eq 30, 3) := by decide +kernel
theorem d_X_isAtOrBelow_21 : decode b_X_isAtOrBelow 21 = .ok (.iload 4, 2) := by decide +kernel
theorem d_X_isAtOrBelow_23 : decode b_X_isAtOrBelow 23 = .ok (.iload_n 3, 1) := by decide +kernel
theorem d_X_isAtOrBelow_24 : decode b_X_isAtOrBelow 24 = .ok (.if_icmp .ne 5, 3) := by decide +kernel
theorem d_X_isAtOrBelow_27 : decode b_X_isAtOrBelow 27 = .ok (.iconst 1, 1) := by decide +kernel
theorem d_X_isAtOrBelow_28 : decode b_X_isAtOrBelow 28 = .ok (.ireturn, 1) := by decide +kernel
theorem d_X_isAtOrBelow_29 : decode b_X_isAtOrBelow 29 = .ok (.aload_n 0, 1) := by decide +kernel
theorem d_X_isAtOrBelow_30 : decode b_X_isAtOrBelow 30 = .ok (.getfield 16, 3) := by decide +kernel
theorem d_X_isAtOrBelow_33 : decode b_X_isAtOrBelow 33 = .ok (.iload_n 1, 1) := by decide +kernel
theorem d_X_isAtOrBelow_34 : decode b_X_isAtOrBelow 34 = .ok (.iload 4, 2) := by decide +kernel
theorem d_X_isAtOrBelow_36 : decode b_X_isAtOrBelow 36 = .ok (.invokestatic 58, 3) := by decide +kernel
theorem d_X_isAtOrBelow_39 : decode b_X_isAtOrBelow 39 = .ok (.iaload, 1) := by decide +kernel
theorem d_X_isAtOrBelow_40 : decode b_X_isAtOrBelow 40 = .ok (.istore 4, 2) := by decide +kernel
theorem d_X_isAtOrBelow_42 : decode b_X_isAtOrBelow 42 = .ok (.iinc 5 1, 3) := by decide +kernel
theorem d_X_isAtOrBelow_45 : decode b_X_isAtOrBelow 45 = .ok (.goto (-39), 3) := by decide +kernel
theorem d_X_isAtOrBelow_48 : decode b_X_isAtOrBelow 48 = .ok (.iconst 0, 1) := by decide +kernel
theorem d_X_isAtOrBelow_49 : decode b_X_isAtOrBelow 49 = .ok (.ireturn, 1) := by decide +kernel
theorem d_X_hit_0 : decode b_X_hit 0 = .ok (.aload_n 0, 1) := by decide +kernel
theorem d_X_hit_1 : decode b_X_hit 1 = .ok (.iload_n 1, 1) := by decide +kernel
theorem d_X_hit_2 : decode b_X_hit 2 = .ok (.invokevirtual 44, 3) := by decide +kernel
theorem d_X_hit_5 : decode b_X_hit 5 = .ok (.ifCond .ne 5, 3) := by decide +kernel
theorem d_X_hit_8 : decode b_X_hit 8 = .ok (.iconst (-1), 1) := by decide +kernel
theorem d_X_hit_9 : decode b_X_hit 9 = .ok (.ireturn, 1) := by decide +kernel
theorem d_X_hit_10 : decode b_X_hit 10 = .ok (.iload_n 2, 1) := by decide +kernel
theorem d_X_hit_11 : decode b_X_hit 11 = .ok (.ifCond .eq 19, 3) := by decide +kernel
theorem d_X_hit_14 : decode b_X_hit 14 = .ok (.aload_n 0, 1) := by decide +kernel
theorem d_X_hit_15 : decode b_X_hit 15 = .ok (.dup, 1) := by decide +kernel
theorem d_X_hit_16 : decode b_X_hit 16 = .ok (.getfield 40, 3) := by decide +kernel
theorem d_X_hit_19 : decode b_X_hit 19 = .ok (.iload_n 1, 1) := by decide +kernel
theorem d_X_hit_20 : decode b_X_hit 20 = .ok (.invokestatic 62, 3) := by decide +kernel
theorem d_X_hit_23 : decode b_X_hit 23 = .ok (.lor, 1) := by decide +kernel
theorem d_X_hit_24 : decode b_X_hit 24 = .ok (.putfield 40, 3) := by decide +kernel
theorem d_X_hit_27 : decode b_X_hit 27 = .ok (.goto 20, 3) := by decide +kernel
theorem d_X_hit_30 : decode b_X_hit 30 = .ok (.aload_n 0, 1) := by decide +kernel
theorem d_X_hit_31 : decode b_X_hit 31 = .ok (.dup, 1) := by decide +kernel
theorem d_X_hit_32 : decode b_X_hit 32 = .ok (.getfield 40, 3) := by decide +kernel
theorem d_X_hit_35 : decode b_X_hit 35 = .ok (.iload_n 1, 1) := by decide +kernel
theorem d_X_hit_36 : decode b_X_hit 36 = .ok (.invokestatic 62, 3) := by decide +kernel
theorem d_X_hit_39 : decode b_X_hit 39 = .ok (.ldc2_w 73, 3) := by decide +kernel
theorem d_X_hit_42 : decode b_X_hit 42 = .ok (.lxor, 1) := by decide +kernel
theorem d_X_hit_43 : decode b_X_hit 43 = .ok (.land, 1) := by decide +kernel
theorem d_X_hit_44 : decode b_X_hit 44 = .ok (.putfield 40, 3) := by decide +kernel
theorem d_X_hit_47 : decode b_X_hit 47 = .ok (.aload_n 0, 1) := by decide +kernel
theorem d_X_hit_48 : decode b_X_hit 48 = .ok (.getfield 40, 3) := by decide +kernel
theorem d_X_hit_51 : decode b_X_hit 51 = .ok (.invokestatic 82, 3) := by decide +kernel
theorem d_X_hit_54 : decode b_X_hit 54 = .ok (.ireturn, 1) := by decide +kernel
theorem d_JL_bitCount_0 : decode b_JL_bitCount 0 = .ok (.lload_n 0, 1) := by decide +kernel
theorem d_JL_bitCount_1 : decode b_JL_bitCount 1 = .ok (.lload_n 0, 1) := by decide +kernel
theorem d_JL_bitCount_2 : decode b_JL_bitCount 2 = .ok (.iconst 1, 1) := by decide +kernel
theorem d_JL_bitCount_3 : decode b_JL_bitCount 3 = .ok (.lushr, 1) := by decide +kernel
theorem d_JL_bitCount_4 : decode b_JL_bitCount 4 = .ok (.ldc2_w 314, 3) := by decide +kernel
theorem d_JL_bitCount_7 : decode b_JL_bitCount 7 = .ok (.land, 1) := by decide +kernel
theorem d_JL_bitCount_8 : decode b_JL_bitCount 8 = .ok (.lsub, 1) := by decide +kernel
theorem d_JL_bitCount_9 : decode b_JL_bitCount 9 = .ok (.lstore_n 0, 1) := by decide +kernel
theorem d_JL_bitCount_10 : decode b_JL_bitCount 10 = .ok (.lload_n 0, 1) := by decide +kernel
theorem d_JL_bitCount_11 : decode b_JL_bitCount 11 = .ok (.ldc2_w 316, 3) := by decide +kernel
theorem d_JL_bitCount_14 : decode b_JL_bitCount 14 = .ok (.land, 1) := by decide +kernel
theorem d_JL_bitCount_15 : decode b_JL_bitCount 15 = .ok (.lload_n 0, 1) := by decide +kernel
theorem d_JL_bitCount_16 : decode b_JL_bitCount 16 = .ok (.iconst 2, 1) := by decide +kernel
theorem d_JL_bitCount_17 : decode b_JL_bitCount 17 = .ok (.lushr, 1) := by decide +kernel
theorem d_JL_bitCount_18 : decode b_JL_bitCount 18 = .ok (.ldc2_w 316, 3) := by decide +kernel
theorem d_JL_bitCount_21 : decode b_JL_bitCount 21 = .ok (.land, 1) := by decide +kernel
theorem d_JL_bitCount_22 : decode b_JL_bitCount 22 = .ok (.ladd, 1) := by decide +kernel
theorem d_JL_bitCount_23 : decode b_JL_bitCount 23 = .ok (.lstore_n 0, 1) := by decide +kernel
theorem d_JL_bitCount_24 : decode b_JL_bitCount 24 = .ok (.lload_n 0, 1) := by decide +kernel
theorem d_JL_bitCount_25 : decode b_JL_bitCount 25 = .ok (.lload_n 0, 1) := by decide +kernel
theorem d_JL_bitCount_26 : decode b_JL_bitCount 26 = .ok (.iconst 4, 1) := by decide +kernel
theorem d_JL_bitCount_27 : decode b_JL_bitCount 27 = .ok (.lushr, 1) := by decide +kernel
theorem d_JL_bitCount_28 : decode b_JL_bitCount 28 = .ok (.ladd, 1) := by decide +kernel
theorem d_JL_bitCount_29 : decode b_JL_bitCount 29 = .ok (.ldc2_w 318, 3) := by decide +kernel
theorem d_JL_bitCount_32 : decode b_JL_bitCount 32 = .ok (.land, 1) := by decide +kernel
theorem d_JL_bitCount_33 : decode b_JL_bitCount 33 = .ok (.lstore_n 0, 1) := by decide +kernel
theorem d_JL_bitCount_34 : decode b_JL_bitCount 34 = .ok (.lload_n 0, 1) := by decide +kernel
theorem d_JL_bitCount_35 : decode b_JL_bitCount 35 = .ok (.lload_n 0, 1) := by decide +kernel
theorem d_JL_bitCount_36 : decode b_JL_bitCount 36 = .ok (.bipush 8, 2) := by decide +kernel
theorem d_JL_bitCount_38 : decode b_JL_bitCount 38 = .ok (.lushr, 1) := by decide +kernel
theorem d_JL_bitCount_39 : decode b_JL_bitCount 39 = .ok (.ladd, 1) := by decide +kernel
theorem d_JL_bitCount_40 : decode b_JL_bitCount 40 = .ok (.lstore_n 0, 1) := by decide +kernel
theorem d_JL_bitCount_41 : decode b_JL_bitCount 41 = .ok (.lload_n 0, 1) := by decide +kernel
theorem d_JL_bitCount_42 : decode b_JL_bitCount 42 = .ok (.lload_n 0, 1) := by decide +kernel
theorem d_JL_bitCount_43 : decode b_JL_bitCount 43 = .ok (.bipush 16, 2) := by decide +kernel
theorem d_JL_bitCount_45 : decode b_JL_bitCount 45 = .ok (.lushr, 1) := by decide +kernel
theorem d_JL_bitCount_46 : decode b_JL_bitCount 46 = .ok (.ladd, 1) := by decide +kernel
theorem d_JL_bitCount_47 : decode b_JL_bitCount 47 = .ok (.lstore_n 0, 1) := by decide +kernel
theorem d_JL_bitCount_48 : decode b_JL_bitCount 48 = .ok (.lload_n 0, 1) := by decide +kernel
theorem d_JL_bitCount_49 : decode b_JL_bitCount 49 = .ok (.lload_n 0, 1) := by decide +kernel
theorem d_JL_bitCount_50 : decode b_JL_bitCount 50 = .ok (.bipush 32, 2) := by decide +kernel
theorem d_JL_bitCount_52 : decode b_JL_bitCount 52 = .ok (.lushr, 1) := by decide +kernel
theorem d_JL_bitCount_53 : decode b_JL_bitCount 53 = .ok (.ladd, 1) := by decide +kernel
theorem d_JL_bitCount_54 : decode b_JL_bitCount 54 = .ok (.lstore_n 0, 1) := by decide +kernel
theorem d_JL_bitCount_55 : decode b_JL_bitCount 55 = .ok (.lload_n 0, 1) := by decide +kernel
theorem d_JL_bitCount_56 : decode b_JL_bitCount 56 = .ok (.l2i, 1) := by decide +kernel
theorem d_JL_bitCount_57 : decode b_JL_bitCount 57 = .ok (.bipush 127, 2) := by decide +kernel
theorem d_JL_bitCount_59 : decode b_JL_bitCount 59 = .ok (.iand, 1) := by decide +kernel
theorem d_JL_bitCount_60 : decode b_JL_bitCount 60 = .ok (.ireturn, 1) := by decide +kernel
theorem d_X_choose_0 : decode b_X_choose 0 = .ok (.iload_n 1, 1) := by decide +kernel
theorem d_X_choose_1 : decode b_X_choose 1 = .ok (.invokestatic 48, 3) := by decide +kernel
theorem d_X_choose_4 : decode b_X_choose 4 = .ok (.ifCond .eq 10, 3) := by decide +kernel
theorem d_X_choose_7 : decode b_X_choose 7 = .ok (.iload_n 2, 1) := by decide +kernel
theorem d_X_choose_8 : decode b_X_choose 8 = .ok (.invokestatic 51, 3) := by decide +kernel
theorem d_X_choose_11 : decode b_X_choose 11 = .ok (.ifCond .ne 5, 3) := by decide +kernel
theorem d_X_choose_14 : decode b_X_choose 14 = .ok (.iconst (-1), 1) := by decide +kernel
theorem d_X_choose_15 : decode b_X_choose 15 = .ok (.ireturn, 1) := by decide +kernel
theorem d_X_choose_16 : decode b_X_choose 16 = .ok (.aload_n 0, 1) := by decide +kernel
theorem d_X_choose_17 : decode b_X_choose 17 = .ok (.getfield 26, 3) := by decide +kernel
theorem d_X_choose_20 : decode b_X_choose 20 = .ok (.iload_n 1, 1) := by decide +kernel
theorem d_X_choose_21 : decode b_X_choose 21 = .ok (.iload_n 2, 1) := by decide +kernel
theorem d_X_choose_22 : decode b_X_choose 22 = .ok (.invokestatic 58, 3) := by decide +kernel
theorem d_X_choose_25 : decode b_X_choose 25 = .ok (.aload_n 0, 1) := by decide +kernel
theorem d_X_choose_26 : decode b_X_choose 26 = .ok (.getfield 26, 3) := by decide +kernel
theorem d_X_choose_29 : decode b_X_choose 29 = .ok (.iload_n 1, 1) := by decide +kernel
theorem d_X_choose_30 : decode b_X_choose 30 = .ok (.iload_n 2, 1) := by decide +kernel
theorem d_X_choose_31 : decode b_X_choose 31 = .ok (.invokestatic 58, 3) := by decide +kernel
theorem d_X_choose_34 : decode b_X_choose 34 = .ok (.baload, 1) := by decide +kernel
theorem d_X_choose_35 : decode b_X_choose 35 = .ok (.ifCond .ne 7, 3) := by decide +kernel
theorem d_X_choose_38 : decode b_X_choose 38 = .ok (.iconst 1, 1) := by decide +kernel
theorem d_X_choose_39 : decode b_X_choose 39 = .ok (.goto 4, 3) := by decide +kernel
theorem d_X_choose_42 : decode b_X_choose 42 = .ok (.iconst 0, 1) := by decide +kernel
theorem d_X_choose_43 : decode b_X_choose 43 = .ok (.bastore, 1) := by decide +kernel
theorem d_X_choose_44 : decode b_X_choose 44 = .ok (.aload_n 0, 1) := by decide +kernel
theorem d_X_choose_45 : decode b_X_choose 45 = .ok (.invokevirtual 88, 3) := by decide +kernel
theorem d_X_choose_48 : decode b_X_choose 48 = .ok (.invokestatic 82, 3) := by decide +kernel
theorem d_X_choose_51 : decode b_X_choose 51 = .ok (.ireturn, 1) := by decide +kernel
theorem d_X_hitsLeft_0 : decode b_X_hitsLeft 0 = .ok (.aload_n 0, 1) := by decide +kernel
theorem d_X_hitsLeft_1 : decode b_X_hitsLeft 1 = .ok (.getfield 40, 3) := by decide +kernel
theorem d_X_hitsLeft_4 : decode b_X_hitsLeft 4 = .ok (.lstore_n 1, 1) := by decide +kernel
theorem d_X_hitsLeft_5 : decode b_X_hitsLeft 5 = .ok (.iconst 0, 1) := by decide +kernel
theorem d_X_hitsLeft_6 : decode b_X_hitsLeft 6 = .ok (.istore_n 3, 1) := by decide +kernel
theorem d_X_hitsLeft_7 : decode b_X_hitsLeft 7 = .ok (.iload_n 3, 1) := by decide +kernel
theorem d_X_hitsLeft_8 : decode b_X_hitsLeft 8 = .ok (.bipush 6, 2) := by decide +kernel
theorem d_X_hitsLeft_10 : decode b_X_hitsLeft 10 = .ok (.if_icmp .ge 17, 3) := by decide +kernel
theorem d_X_hitsLeft_13 : decode b_X_hitsLeft 13 = .ok (.lload_n 1, 1) := by decide +kernel
theorem d_X_hitsLeft_14 : decode b_X_hitsLeft 14 = .ok (.aload_n 0, 1) := by decide +kernel
theorem d_X_hitsLeft_15 : decode b_X_hitsLeft 15 = .ok (.iload_n 3, 1) := by decide +kernel
theorem d_X_hitsLeft_16 : decode b_X_hitsLeft 16 = .ok (.invokevirtual 125, 3) := by decide +kernel
theorem d_X_hitsLeft_19 : decode b_X_hitsLeft 19 = .ok (.land, 1) := by decide +kernel
theorem d_X_hitsLeft_20 : decode b_X_hitsLeft 20 = .ok (.lstore_n 1, 1) := by decide +kernel
theorem d_X_hitsLeft_21 : decode b_X_hitsLeft 21 = .ok (.iinc 3 1, 3) := by decide +kernel
theorem d_X_hitsLeft_24 : decode b_X_hitsLeft 24 = .ok (.goto (-17), 3) := by decide +kernel
theorem d_X_hitsLeft_27 : decode b_X_hitsLeft 27 = .ok (.lload_n 1, 1) := by decide +kernel
theorem d_X_hitsLeft_28 : decode b_X_hitsLeft 28 = .ok (.lreturn, 1) := by decide +kernel
theorem d_X_admitted_0 : decode b_X_admitted 0 = .ok (.iconst 0, 1) := by decide +kernel
theorem d_X_admitted_1 : decode b_X_admitted 1 = .ok (.istore_n 2, 1) := by decide +kernel
theorem d_X_admitted_2 : decode b_X_admitted 2 = .ok (.lconst 0, 1) := by decide +kernel
theorem d_X_admitted_3 : decode b_X_admitted 3 = .ok (.lstore_n 3, 1) := by decide +kernel
theorem d_X_admitted_4 : decode b_X_admitted 4 = .ok (.iconst 0, 1) := by decide +kernel
theorem d_X_admitted_5 : decode b_X_admitted 5 = .ok (.istore 5, 2) := by decide +kernel
theorem d_X_admitted_7 : decode b_X_admitted 7 = .ok (.iload 5, 2) := by decide +kernel
theorem d_X_admitted_9 : decode b_X_admitted 9 = .ok (.bipush 100, 2) := by decide +kernel
theorem d_X_admitted_11 : decode b_X_admitted 11 = .ok (.if_icmp .ge 39, 3) := by decide +kernel
theorem d_X_admitted_14 : decode b_X_admitted 14 = .ok (.aload_n 0, 1) := by decide +kernel
theorem d_X_admitted_15 : decode b_X_admitted 15 = .ok (.getfield 26, 3) := by decide +kernel
theorem d_X_admitted_18 : decode b_X_admitted 18 = .ok (.iload_n 1, 1) := by decide +kernel
theorem d_X_admitted_19 : decode b_X_admitted 19 = .ok (.iload 5, 2) := by decide +kernel
theorem d_X_admitted_21 : decode b_X_admitted 21 = .ok (.invokestatic 58, 3) := by decide +kernel
theorem d_X_admitted_24 : decode b_X_admitted 24 = .ok (.baload, 1) := by decide +kernel
theorem d_X_admitted_25 : decode b_X_admitted 25 = .ok (.ifCond .eq 19, 3) := by decide +kernel
theorem d_X_admitted_28 : decode b_X_admitted 28 = .ok (.iconst 1, 1) := by decide +kernel
theorem d_X_admitted_29 : decode b_X_admitted 29 = .ok (.istore_n 2, 1) := by decide +kernel
theorem d_X_admitted_30 : decode b_X_admitted 30 = .ok (.lload_n 3, 1) := by decide +kernel
theorem d_X_admitted_31 : decode b_X_admitted 31 = .ok (.aload_n 0, 1) := by decide +kernel
theorem d_X_admitted_32 : decode b_X_admitted 32 = .ok (.getfield 13, 3) := by decide +kernel
theorem d_X_admitted_35 : decode b_X_admitted 35 = .ok (.iload_n 1, 1) := by decide +kernel
theorem d_X_admitted_36 : decode b_X_admitted 36 = .ok (.iload 5, 2) := by decide +kernel
theorem d_X_admitted_38 : decode b_X_admitted 38 = .ok (.invokestatic 58, 3) := by decide +kernel
theorem d_X_admitted_41 : decode b_X_admitted 41 = .ok (.laload, 1) := by decide +kernel
theorem d_X_admitted_42 : decode b_X_admitted 42 = .ok (.lor, 1) := by decide +kernel
theorem d_X_admitted_43 : decode b_X_admitted 43 = .ok (.lstore_n 3, 1) := by decide +kernel
theorem d_X_admitted_44 : decode b_X_admitted 44 = .ok (.iinc 5 1, 3) := by decide +kernel
theorem d_X_admitted_47 : decode b_X_admitted 47 = .ok (.goto (-40), 3) := by decide +kernel
theorem d_X_admitted_50 : decode b_X_admitted 50 = .ok (.iload_n 2, 1) := by decide +kernel
theorem d_X_admitted_51 : decode b_X_admitted 51 = .ok (.ifCond .eq 7, 3) := by decide +kernel
theorem d_X_admitted_54 : decode b_X_admitted 54 = .ok (.lload_n 3, 1) := by decide +kernel
theorem d_X_admitted_55 : decode b_X_admitted 55 = .ok (.goto 6, 3) := by decide +kernel
theorem d_X_admitted_58 : decode b_X_admitted 58 = .ok (.ldc2_w 73, 3) := by decide +kernel
theorem d_X_admitted_61 : decode b_X_admitted 61 = .ok (.lreturn, 1) := by decide +kernel
theorem d_X_count_0 : decode b_X_count 0 = .ok (.iload_n 1, 1) := by decide +kernel
theorem d_X_count_1 : decode b_X_count 1 = .ok (.invokestatic 48, 3) := by decide +kernel
theorem d_X_count_4 : decode b_X_count 4 = .ok (.ifCond .eq 10, 3) := by decide +kernel
theorem d_X_count_7 : decode b_X_count 7 = .ok (.iload_n 2, 1) := by decide +kernel
theorem d_X_count_8 : decode b_X_count 8 = .ok (.invokestatic 51, 3) := by decide +kernel
theorem d_X_count_11 : decode b_X_count 11 = .ok (.ifCond .ne 5, 3) := by decide +kernel
theorem d_X_count_14 : decode b_X_count 14 = .ok (.iconst (-1), 1) := by decide +kernel
theorem d_X_count_15 : decode b_X_count 15 = .ok (.ireturn, 1) := by decide +kernel
theorem d_X_count_16 : decode b_X_count 16 = .ok (.aload_n 0, 1) := by decide +kernel
theorem d_X_count_17 : decode b_X_count 17 = .ok (.invokevirtual 88, 3) := by decide +kernel
theorem d_X_count_20 : decode b_X_count 20 = .ok (.aload_n 0, 1) := by decide +kernel
theorem d_X_count_21 : decode b_X_count 21 = .ok (.getfield 13, 3) := by decide +kernel
theorem d_X_count_24 : decode b_X_count 24 = .ok (.iload_n 1, 1) := by decide +kernel
theorem d_X_count_25 : decode b_X_count 25 = .ok (.iload_n 2, 1) := by decide +kernel
theorem d_X_count_26 : decode b_X_count 26 = .ok (.invokestatic 58, 3) := by decide +kernel
theorem d_X_count_29 : decode b_X_count 29 = .ok (.laload, 1) := by decide +kernel
theorem d_X_count_30 : decode b_X_count 30 = .ok (.land, 1) := by decide +kernel
theorem d_X_count_31 : decode b_X_count 31 = .ok (.invokestatic 82, 3) := by decide +kernel
theorem d_X_count_34 : decode b_X_count 34 = .ok (.ireturn, 1) := by decide +kernel
theorem d_X_top_0 : decode b_X_top 0 = .ok (.iload_n 1, 1) := by decide +kernel
theorem d_X_top_1 : decode b_X_top 1 = .ok (.invokestatic 48, 3) := by decide +kernel
theorem d_X_top_4 : decode b_X_top 4 = .ok (.ifCond .ne 5, 3) := by decide +kernel
theorem d_X_top_7 : decode b_X_top 7 = .ok (.iconst (-1), 1) := by decide +kernel
theorem d_X_top_8 : decode b_X_top 8 = .ok (.ireturn, 1) := by decide +kernel
theorem d_X_top_9 : decode b_X_top 9 = .ok (.aload_n 0, 1) := by decide +kernel
theorem d_X_top_10 : decode b_X_top 10 = .ok (.iload_n 1, 1) := by decide +kernel
theorem d_X_top_11 : decode b_X_top 11 = .ok (.invokevirtual 92, 3) := by decide +kernel
theorem d_X_top_14 : decode b_X_top 14 = .ok (.aload_n 0, 1) := by decide +kernel
theorem d_X_top_15 : decode b_X_top 15 = .ok (.iload_n 2, 1) := by decide +kernel
theorem d_X_top_16 : decode b_X_top 16 = .ok (.invokevirtual 95, 3) := by decide +kernel
theorem d_X_top_19 : decode b_X_top 19 = .ok (.ireturn, 1) := by decide +kernel
theorem d_X_countValues_0 : decode b_X_countValues 0 = .ok (.aload_n 0, 1) := by decide +kernel
theorem d_X_countValues_1 : decode b_X_countValues 1 = .ok (.invokevirtual 88, 3) := by decide +kernel
theorem d_X_countValues_4 : decode b_X_countValues 4 = .ok (.lstore_n 2, 1) := by decide +kernel
theorem d_X_countValues_5 : decode b_X_countValues 5 = .ok (.iconst 0, 1) := by decide +kernel
theorem d_X_countValues_6 : decode b_X_countValues 6 = .ok (.istore 4, 2) := by decide +kernel
theorem d_X_countValues_8 : decode b_X_countValues 8 = .ok (.iload 4, 2) := by decide +kernel
theorem d_X_countValues_10 : decode b_X_countValues 10 = .ok (.bipush 100, 2) := by decide +kernel
theorem d_X_countValues_12 : decode b_X_countValues 12 = .ok (.if_icmp .ge 32, 3) := by decide +kernel
theorem d_X_countValues_15 : decode b_X_countValues 15 = .ok (.aload_n 0, 1) := by decide +kernel
theorem d_X_countValues_16 : decode b_X_countValues 16 = .ok (.getfield 30, 3) := by decide +kernel
theorem d_X_countValues_19 : decode b_X_countValues 19 = .ok (.iload 4, 2) := by decide +kernel
theorem d_X_countValues_21 : decode b_X_countValues 21 = .ok (.lload_n 2, 1) := by decide +kernel
theorem d_X_countValues_22 : decode b_X_countValues 22 = .ok (.aload_n 0, 1) := by decide +kernel
theorem d_X_countValues_23 : decode b_X_countValues 23 = .ok (.getfield 13, 3) := by decide +kernel
theorem d_X_countValues_26 : decode b_X_countValues 26 = .ok (.iload_n 1, 1) := by decide +kernel
theorem d_X_countValues_27 : decode b_X_countValues 27 = .ok (.iload 4, 2) := by decide +kernel
theorem d_X_countValues_29 : decode b_X_countValues 29 = .ok (.invokestatic 58, 3) := by decide +kernel
theorem d_X_countValues_32 : decode b_X_countValues 32 = .ok (.laload, 1) := by decide +kernel
theorem d_X_countValues_33 : decode b_X_countValues 33 = .ok (.land, 1) := by decide +kernel
theorem d_X_countValues_34 : decode b_X_countValues 34 = .ok (.invokestatic 82, 3) := by decide +kernel
theorem d_X_countValues_37 : decode b_X_countValues 37 = .ok (.iastore, 1) := by decide +kernel
theorem d_X_countValues_38 : decode b_X_countValues 38 = .ok (.iinc 4 1, 3) := by decide +kernel
theorem d_X_countValues_41 : decode b_X_countValues 41 = .ok (.goto (-33), 3) := by decide +kernel
theorem d_X_countValues_44 : decode b_X_countValues 44 = .ok (.return_, 1) := by decide +kernel
theorem d_X_ranked_0 : decode b_X_ranked 0 = .ok (.iconst 0, 1) := by decide +kernel
theorem d_X_ranked_1 : decode b_X_ranked 1 = .ok (.istore_n 2, 1) := by decide +kernel
theorem d_X_ranked_2 : decode b_X_ranked 2 = .ok (.bipush 60, 2) := by decide +kernel
theorem d_X_ranked_4 : decode b_X_ranked 4 = .ok (.istore_n 3, 1) := by decide +kernel
theorem d_X_ranked_5 : decode b_X_ranked 5 = .ok (.iload_n 3, 1) := by decide +kernel
theorem d_X_ranked_6 : decode b_X_ranked 6 = .ok (.iconst 1, 1) := by decide +kernel
theorem d_X_ranked_7 : decode b_X_ranked 7 = .ok (.if_icmp .lt 47, 3) := by decide +kernel
theorem d_X_ranked_10 : decode b_X_ranked 10 = .ok (.iconst 0, 1) := by decide +kernel
theorem d_X_ranked_11 : decode b_X_ranked 11 = .ok (.istore 4, 2) := by decide +kernel
theorem d_X_ranked_13 : decode b_X_ranked 13 = .ok (.iload 4, 2) := by decide +kernel
theorem d_X_ranked_15 : decode b_X_ranked 15 = .ok (.bipush 100, 2) := by decide +kernel
theorem d_X_ranked_17 : decode b_X_ranked 17 = .ok (.if_icmp .ge 31, 3) := by decide +kernel
theorem d_X_ranked_20 : decode b_X_ranked 20 = .ok (.aload_n 0, 1) := by decide +kernel
theorem d_X_ranked_21 : decode b_X_ranked 21 = .ok (.getfield 30, 3) := by decide +kernel
theorem d_X_ranked_24 : decode b_X_ranked 24 = .ok (.iload 4, 2) := by decide +kernel
theorem d_X_ranked_26 : decode b_X_ranked 26 = .ok (.iaload, 1) := by decide +kernel
theorem d_X_ranked_27 : decode b_X_ranked 27 = .ok (.iload_n 3, 1) := by decide +kernel
theorem d_X_ranked_28 : decode b_X_ranked 28 = .ok (.if_icmp .ne 14, 3) := by decide +kernel
theorem d_X_ranked_31 : decode b_X_ranked 31 = .ok (.iload_n 2, 1) := by decide +kernel
theorem d_X_ranked_32 : decode b_X_ranked 32 = .ok (.iload_n 1, 1) := by decide +kernel
theorem d_X_ranked_33 : decode b_X_ranked 33 = .ok (.if_icmp .ne 6, 3) := by decide +kernel
theorem d_X_ranked_36 : decode b_X_ranked 36 = .ok (.iload 4, 2) := by decide +kernel
theorem d_X_ranked_38 : decode b_X_ranked 38 = .ok (.ireturn, 1) := by decide +kernel
theorem d_X_ranked_39 : decode b_X_ranked 39 = .ok (.iinc 2 1, 3) := by decide +kernel
theorem d_X_ranked_42 : decode b_X_ranked 42 = .ok (.iinc 4 1, 3) := by decide +kernel
theorem d_X_ranked_45 : decode b_X_ranked 45 = .ok (.goto (-32), 3) := by decide +kernel
theorem d_X_ranked_48 : decode b_X_ranked 48 = .ok (.iinc 3 (-1), 3) := by decide +kernel
theorem d_X_ranked_51 : decode b_X_ranked 51 = .ok (.goto (-46), 3) := by decide +kernel
theorem d_X_ranked_54 : decode b_X_ranked 54 = .ok (.iconst (-1), 1) := by decide +kernel
theorem d_X_ranked_55 : decode b_X_ranked 55 = .ok (.ireturn, 1) := by decide +kernel
theorem d_X_below_0 : decode b_X_below 0 = .ok (.iload_n 1, 1) := by decide +kernel
theorem d_X_below_1 : decode b_X_below 1 = .ok (.invokestatic 48, 3) := by decide +kernel
theorem d_X_below_4 : decode b_X_below 4 = .ok (.ifCond .eq 14, 3) := by decide +kernel
theorem d_X_below_7 : decode b_X_below 7 = .ok (.iload_n 2, 1) := by decide +kernel
theorem d_X_below_8 : decode b_X_below 8 = .ok (.ifCond .ne 12, 3) := by decide +kernel
theorem d_X_below_11 : decode b_X_below 11 = .ok (.iload_n 3, 1) := by decide +kernel
theorem d_X_below_12 : decode b_X_below 12 = .ok (.invokestatic 51, 3) := by decide +kernel
theorem d_X_below_15 : decode b_X_below 15 = .ok (.ifCond .ne 5, 3) := by decide +kernel
theorem d_X_below_18 : decode b_X_below 18 = .ok (.iconst (-1), 1) := by decide +kernel
theorem d_X_below_19 : decode b_X_below 19 = .ok (.ireturn, 1) := by decide +kernel
theorem d_X_below_20 : decode b_X_below 20 = .ok (.aload_n 0, 1) := by decide +kernel
theorem d_X_below_21 : decode b_X_below 21 = .ok (.iload_n 1, 1) := by decide +kernel
theorem d_X_below_22 : decode b_X_below 22 = .ok (.invokevirtual 92, 3) := by decide +kernel
theorem d_X_below_25 : decode b_X_below 25 = .ok (.aload_n 0, 1) := by decide +kernel
theorem d_X_below_26 : decode b_X_below 26 = .ok (.iload_n 1, 1) := by decide +kernel
theorem d_X_below_27 : decode b_X_below 27 = .ok (.iload_n 2, 1) := by decide +kernel
theorem d_X_below_28 : decode b_X_below 28 = .ok (.ifCond .eq 7, 3) := by decide +kernel
theorem d_X_below_31 : decode b_X_below 31 = .ok (.iconst (-1), 1) := by decide +kernel
theorem d_X_below_32 : decode b_X_below 32 = .ok (.goto 4, 3) := by decide +kernel
theorem d_X_below_35 : decode b_X_below 35 = .ok (.iload_n 3, 1) := by decide +kernel
theorem d_X_below_36 : decode b_X_below 36 = .ok (.invokevirtual 99, 3) := by decide +kernel
theorem d_X_below_39 : decode b_X_below 39 = .ok (.aload_n 0, 1) := by decide +kernel
theorem d_X_below_40 : decode b_X_below 40 = .ok (.iload 4, 2) := by decide +kernel
theorem d_X_below_42 : decode b_X_below 42 = .ok (.invokevirtual 95, 3) := by decide +kernel
theorem d_X_below_45 : decode b_X_below 45 = .ok (.ireturn, 1) := by decide +kernel
theorem d_X_dropOthersThanBelow_0 : decode b_X_dropOthersThanBelow 0 = .ok (.iconst 0, 1) := by decide +kernel
theorem d_X_dropOthersThanBelow_1 : decode b_X_dropOthersThanBelow 1 = .ok (.istore_n 3, 1) := by decide +kernel
theorem d_X_dropOthersThanBelow_2 : decode b_X_dropOthersThanBelow 2 = .ok (.iload_n 3, 1) := by decide +kernel
theorem d_X_dropOthersThanBelow_3 : decode b_X_dropOthersThanBelow 3 = .ok (.bipush 100, 2) := by decide +kernel
theorem d_X_dropOthersThanBelow_5 : decode b_X_dropOthersThanBelow 5 = .ok (.if_icmp .ge 30, 3) := by decide +kernel
theorem d_X_dropOthersThanBelow_8 : decode b_X_dropOthersThanBelow 8 = .ok (.aload_n 0, 1) := by decide +kernel
theorem d_X_dropOthersThanBelow_9 : decode b_X_dropOthersThanBelow 9 = .ok (.getfield 16, 3) := by decide +kernel
theorem d_X_dropOthersThanBelow_12 : decode b_X_dropOthersThanBelow 12 = .ok (.iload_n 1, 1) := by decide +kernel
theorem d_X_dropOthersThanBelow_13 : decode b_X_dropOthersThanBelow 13 = .ok (.iload_n 3, 1) := by decide +kernel
theorem d_X_dropOthersThanBelow_14 : decode b_X_dropOthersThanBelow 14 = .ok (.invokestatic 58, 3) := by decide +kernel
theorem d_X_dropOthersThanBelow_17 : decode b_X_dropOthersThanBelow 17 = .ok (.iaload, 1) := by decide +kernel
theorem d_X_dropOthersThanBelow_18 : decode b_X_dropOthersThanBelow 18 = .ok (.iload_n 2, 1) := by decide +kernel
theorem d_X_dropOthersThanBelow_19 : decode b_X_dropOthersThanBelow 19 = .ok (.if_icmp .eq 10, 3) := by decide +kernel
theorem d_X_dropOthersThanBelow_22 : decode b_X_dropOthersThanBelow 22 = .ok (.aload_n 0, 1) := by decide +kernel
theorem d_X_dropOthersThanBelow_23 : decode b_X_dropOthersThanBelow 23 = .ok (.getfield 30, 3) := by decide +kernel
theorem d_X_dropOthersThanBelow_26 : decode b_X_dropOthersThanBelow 26 = .ok (.iload_n 3, 1) := by decide +kernel
theorem d_X_dropOthersThanBelow_27 : decode b_X_dropOthersThanBelow 27 = .ok (.iconst 0, 1) := by decide +kernel
theorem d_X_dropOthersThanBelow_28 : decode b_X_dropOthersThanBelow 28 = .ok (.iastore, 1) := by decide +kernel
theorem d_X_dropOthersThanBelow_29 : decode b_X_dropOthersThanBelow 29 = .ok (.iinc 3 1, 3) := by decide +kernel
theorem d_X_dropOthersThanBelow_32 : decode b_X_dropOthersThanBelow 32 = .ok (.goto (-30), 3) := by decide +kernel
theorem d_X_dropOthersThanBelow_35 : decode b_X_dropOthersThanBelow 35 = .ok (.return_, 1) := by decide +kernel
theorem d_X_band_0 : decode b_X_band 0 = .ok (.iload_n 1, 1) := by decide +kernel
theorem d_X_band_1 : decode b_X_band 1 = .ok (.invokestatic 48, 3) := by decide +kernel
theorem d_X_band_4 : decode b_X_band 4 = .ok (.ifCond .eq 8, 3) := by decide +kernel
theorem d_X_band_7 : decode b_X_band 7 = .ok (.iload_n 3, 1) := by decide +kernel
theorem d_X_band_8 : decode b_X_band 8 = .ok (.iload_n 2, 1) := by decide +kernel
theorem d_X_band_9 : decode b_X_band 9 = .ok (.if_icmp .ge 5, 3) := by decide +kernel
theorem d_X_band_12 : decode b_X_band 12 = .ok (.iconst (-1), 1) := by decide +kernel
theorem d_X_band_13 : decode b_X_band 13 = .ok (.ireturn, 1) := by decide +kernel
theorem d_X_band_14 : decode b_X_band 14 = .ok (.aload_n 0, 1) := by decide +kernel
theorem d_X_band_15 : decode b_X_band 15 = .ok (.invokevirtual 88, 3) := by decide +kernel
theorem d_X_band_18 : decode b_X_band 18 = .ok (.aload_n 0, 1) := by decide +kernel
theorem d_X_band_19 : decode b_X_band 19 = .ok (.iload_n 1, 1) := by decide +kernel
theorem d_X_band_20 : decode b_X_band 20 = .ok (.iload_n 2, 1) := by decide +kernel
theorem d_X_band_21 : decode b_X_band 21 = .ok (.iload_n 3, 1) := by decide +kernel
theorem d_X_band_22 : decode b_X_band 22 = .ok (.invokevirtual 103, 3) := by decide +kernel
theorem d_X_band_25 : decode b_X_band 25 = .ok (.land, 1) := by decide +kernel
theorem d_X_band_26 : decode b_X_band 26 = .ok (.invokestatic 82, 3) := by decide +kernel
theorem d_X_band_29 : decode b_X_band 29 = .ok (.ireturn, 1) := by decide +kernel
theorem d_X_holdersBetween_0 : decode b_X_holdersBetween 0 = .ok (.iload_n 3, 1) := by decide +kernel
theorem d_X_holdersBetween_1 : decode b_X_holdersBetween 1 = .ok (.bipush 99, 2) := by decide +kernel
theorem d_X_holdersBetween_3 : decode b_X_holdersBetween 3 = .ok (.invokestatic 117, 3) := by decide +kernel
theorem d_X_holdersBetween_6 : decode b_X_holdersBetween 6 = .ok (.istore 4, 2) := by decide +kernel
theorem d_X_holdersBetween_8 : decode b_X_holdersBetween 8 = .ok (.lconst 0, 1) := by decide +kernel
theorem d_X_holdersBetween_9 : decode b_X_holdersBetween 9 = .ok (.lstore 5, 2) := by decide +kernel
theorem d_X_holdersBetween_11 : decode b_X_holdersBetween 11 = .ok (.iload_n 2, 1) := by decide +kernel
theorem d_X_holdersBetween_12 : decode b_X_holdersBetween 12 = .ok (.iconst 0, 1) := by decide +kernel
theorem d_X_holdersBetween_13 : decode b_X_holdersBetween 13 = .ok (.invokestatic 122, 3) := by decide +kernel
theorem d_X_holdersBetween_16 : decode b_X_holdersBetween 16 = .ok (.istore 7, 2) := by decide +kernel
theorem d_X_holdersBetween_18 : decode b_X_holdersBetween 18 = .ok (.iload 7, 2) := by decide +kernel
theorem d_X_holdersBetween_20 : decode b_X_holdersBetween 20 = .ok (.iload 4, 2) := by decide +kernel
theorem d_X_holdersBetween_22 : decode b_X_holdersBetween 22 = .ok (.if_icmp .gt 25, 3) := by decide +kernel
theorem d_X_holdersBetween_25 : decode b_X_holdersBetween 25 = .ok (.lload 5, 2) := by decide +kernel
theorem d_X_holdersBetween_27 : decode b_X_holdersBetween 27 = .ok (.aload_n 0, 1) := by decide +kernel
theorem d_X_holdersBetween_28 : decode b_X_holdersBetween 28 = .ok (.getfield 9, 3) := by decide +kernel
theorem d_X_holdersBetween_31 : decode b_X_holdersBetween 31 = .ok (.iload_n 1, 1) := by decide +kernel
theorem d_X_holdersBetween_32 : decode b_X_holdersBetween 32 = .ok (.iload 7, 2) := by decide +kernel
theorem d_X_holdersBetween_34 : decode b_X_holdersBetween 34 = .ok (.invokestatic 58, 3) := by decide +kernel
theorem d_X_holdersBetween_37 : decode b_X_holdersBetween 37 = .ok (.laload, 1) := by decide +kernel
theorem d_X_holdersBetween_38 : decode b_X_holdersBetween 38 = .ok (.lor, 1) := by decide +kernel
theorem d_X_holdersBetween_39 : decode b_X_holdersBetween 39 = .ok (.lstore 5, 2) := by decide +kernel
theorem d_X_holdersBetween_41 : decode b_X_holdersBetween 41 = .ok (.iinc 7 1, 3) := by decide +kernel
theorem d_X_holdersBetween_44 : decode b_X_holdersBetween 44 = .ok (.goto (-26), 3) := by decide +kernel
theorem d_X_holdersBetween_47 : decode b_X_holdersBetween 47 = .ok (.lload 5, 2) := by decide +kernel
theorem d_X_holdersBetween_49 : decode b_X_holdersBetween 49 = .ok (.lreturn, 1) := by decide +kernel
theorem d_JM_min_0 : decode b_JM_min 0 = .ok (.iload_n 0, 1) := by decide +kernel
theorem d_JM_min_1 : decode b_JM_min 1 = .ok (.iload_n 1, 1) := by decide +kernel
theorem d_JM_min_2 : decode b_JM_min 2 = .ok (.if_icmp .gt 7, 3) := by decide +kernel
theorem d_JM_min_5 : decode b_JM_min 5 = .ok (.iload_n 0, 1) := by decide +kernel
theorem d_JM_min_6 : decode b_JM_min 6 = .ok (.goto 4, 3) := by decide +kernel
theorem d_JM_min_9 : decode b_JM_min 9 = .ok (.iload_n 1, 1) := by decide +kernel
theorem d_JM_min_10 : decode b_JM_min 10 = .ok (.ireturn, 1) := by decide +kernel
theorem d_JM_max_0 : decode b_JM_max 0 = .ok (.iload_n 0, 1) := by decide +kernel
theorem d_JM_max_1 : decode b_JM_max 1 = .ok (.iload_n 1, 1) := by decide +kernel
theorem d_JM_max_2 : decode b_JM_max 2 = .ok (.if_icmp .lt 7, 3) := by decide +kernel
theorem d_JM_max_5 : decode b_JM_max 5 = .ok (.iload_n 0, 1) := by decide +kernel
theorem d_JM_max_6 : decode b_JM_max 6 = .ok (.goto 4, 3) := by decide +kernel
theorem d_JM_max_9 : decode b_JM_max 9 = .ok (.iload_n 1, 1) := by decide +kernel
theorem d_JM_max_10 : decode b_JM_max 10 = .ok (.ireturn, 1) := by decide +kernel
theorem d_X_missing_0 : decode b_X_missing 0 = .ok (.iload_n 1, 1) := by decide +kernel
theorem d_X_missing_1 : decode b_X_missing 1 = .ok (.invokestatic 48, 3) := by decide +kernel
theorem d_X_missing_4 : decode b_X_missing 4 = .ok (.ifCond .ne 5, 3) := by decide +kernel
theorem d_X_missing_7 : decode b_X_missing 7 = .ok (.iconst (-1), 1) := by decide +kernel
theorem d_X_missing_8 : decode b_X_missing 8 = .ok (.ireturn, 1) := by decide +kernel
theorem d_X_missing_9 : decode b_X_missing 9 = .ok (.aload_n 0, 1) := by decide +kernel
theorem d_X_missing_10 : decode b_X_missing 10 = .ok (.invokevirtual 88, 3) := by decide +kernel
theorem d_X_missing_13 : decode b_X_missing 13 = .ok (.aload_n 0, 1) := by decide +kernel
theorem d_X_missing_14 : decode b_X_missing 14 = .ok (.iload_n 1, 1) := by decide +kernel
theorem d_X_missing_15 : decode b_X_missing 15 = .ok (.iconst 0, 1) := by decide +kernel
theorem d_X_missing_16 : decode b_X_missing 16 = .ok (.bipush 99, 2) := by decide +kernel
theorem d_X_missing_18 : decode b_X_missing 18 = .ok (.invokevirtual 103, 3) := by decide +kernel
theorem d_X_missing_21 : decode b_X_missing 21 = .ok (.ldc2_w 73, 3) := by decide +kernel
theorem d_X_missing_24 : decode b_X_missing 24 = .ok (.lxor, 1) := by decide +kernel
theorem d_X_missing_25 : decode b_X_missing 25 = .ok (.land, 1) := by decide +kernel
theorem d_X_missing_26 : decode b_X_missing 26 = .ok (.invokestatic 82, 3) := by decide +kernel
theorem d_X_missing_29 : decode b_X_missing 29 = .ok (.ireturn, 1) := by decide +kernel
theorem d_X_left_0 : decode b_X_left 0 = .ok (.aload_n 0, 1) := by decide +kernel
theorem d_X_left_1 : decode b_X_left 1 = .ok (.invokevirtual 88, 3) := by decide +kernel
theorem d_X_left_4 : decode b_X_left 4 = .ok (.lstore_n 2, 1) := by decide +kernel
theorem d_X_left_5 : decode b_X_left 5 = .ok (.iconst 0, 1) := by decide +kernel
theorem d_X_left_6 : decode b_X_left 6 = .ok (.istore 4, 2) := by decide +kernel
theorem d_X_left_8 : decode b_X_left 8 = .ok (.iconst 1, 1) := by decide +kernel
theorem d_X_left_9 : decode b_X_left 9 = .ok (.istore 5, 2) := by decide +kernel
theorem d_X_left_11 : decode b_X_left 11 = .ok (.iload 5, 2) := by decide +kernel
theorem d_X_left_13 : decode b_X_left 13 = .ok (.aload_n 0, 1) := by decide +kernel
theorem d_X_left_14 : decode b_X_left 14 = .ok (.getfield 33, 3) := by decide +kernel
theorem d_X_left_17 : decode b_X_left 17 = .ok (.if_icmp .gt 33, 3) := by decide +kernel
theorem d_X_left_20 : decode b_X_left 20 = .ok (.lload_n 2, 1) := by decide +kernel
theorem d_X_left_21 : decode b_X_left 21 = .ok (.iload 5, 2) := by decide +kernel
theorem d_X_left_23 : decode b_X_left 23 = .ok (.invokestatic 62, 3) := by decide +kernel
theorem d_X_left_26 : decode b_X_left 26 = .ok (.land, 1) := by decide +kernel
theorem d_X_left_27 : decode b_X_left 27 = .ok (.lconst 0, 1) := by decide +kernel
theorem d_X_left_28 : decode b_X_left 28 = .ok (.lcmp, 1) := by decide +kernel
theorem d_X_left_29 : decode b_X_left 29 = .ok (.ifCond .eq 15, 3) := by decide +kernel
theorem d_X_left_32 : decode b_X_left 32 = .ok (.iload 4, 2) := by decide +kernel
theorem d_X_left_34 : decode b_X_left 34 = .ok (.iload_n 1, 1) := by decide +kernel
theorem d_X_left_35 : decode b_X_left 35 = .ok (.if_icmp .ne 6, 3) := by decide +kernel
theorem d_X_left_38 : decode b_X_left 38 = .ok (.iload 5, 2) := by decide +kernel
theorem d_X_left_40 : decode b_X_left 40 = .ok (.ireturn, 1) := by decide +kernel
theorem d_X_left_41 : decode b_X_left 41 = .ok (.iinc 4 1, 3) := by decide +kernel
theorem d_X_left_44 : decode b_X_left 44 = .ok (.iinc 5 1, 3) := by decide +kernel
theorem d_X_left_47 : decode b_X_left 47 = .ok (.goto (-36), 3) := by decide +kernel
theorem d_X_left_50 : decode b_X_left 50 = .ok (.iconst 0, 1) := by decide +kernel
theorem d_X_left_51 : decode b_X_left 51 = .ok (.ireturn, 1) := by decide +kernel
theorem d_X_share_0 : decode b_X_share 0 = .ok (.iload_n 1, 1) := by decide +kernel
theorem d_X_share_1 : decode b_X_share 1 = .ok (.invokestatic 48, 3) := by decide +kernel
theorem d_X_share_4 : decode b_X_share 4 = .ok (.ifCond .eq 10, 3) := by decide +kernel
theorem d_X_share_7 : decode b_X_share 7 = .ok (.iload_n 2, 1) := by decide +kernel
theorem d_X_share_8 : decode b_X_share 8 = .ok (.invokestatic 51, 3) := by decide +kernel
theorem d_X_share_11 : decode b_X_share 11 = .ok (.ifCond .ne 7, 3) := by decide +kernel
theorem d_X_share_14 : decode b_X_share 14 = .ok (.ldc2_w 73, 3) := by decide +kernel
theorem d_X_share_17 : decode b_X_share 17 = .ok (.lreturn, 1) := by decide +kernel
theorem d_X_share_18 : decode b_X_share 18 = .ok (.aload_n 0, 1) := by decide +kernel
theorem d_X_share_19 : decode b_X_share 19 = .ok (.invokevirtual 88, 3) := by decide +kernel
theorem d_X_share_22 : decode b_X_share 22 = .ok (.lstore 4, 2) := by decide +kernel
theorem d_X_share_24 : decode b_X_share 24 = .ok (.lload 4, 2) := by decide +kernel
theorem d_X_share_26 : decode b_X_share 26 = .ok (.invokestatic 82, 3) := by decide +kernel
theorem d_X_share_29 : decode b_X_share 29 = .ok (.istore 6, 2) := by decide +kernel
theorem d_X_share_31 : decode b_X_share 31 = .ok (.iload 6, 2) := by decide +kernel
theorem d_X_share_33 : decode b_X_share 33 = .ok (.ifCond .ne 13, 3) := by decide +kernel
theorem d_X_share_36 : decode b_X_share 36 = .ok (.new 107, 3) := by decide +kernel
theorem d_X_share_39 : decode b_X_share 39 = .ok (.dup, 1) := by decide +kernel
theorem d_X_share_40 : decode b_X_share 40 = .ok (.ldc 109, 2) := by decide +kernel
theorem d_X_share_42 : decode b_X_share 42 = .ok (.invokespecial 111, 3) := by decide +kernel
theorem d_X_share_45 : decode b_X_share 45 = .ok (.athrow, 1) := by decide +kernel
theorem d_X_share_46 : decode b_X_share 46 = .ok (.lload 4, 2) := by decide +kernel
theorem d_X_share_48 : decode b_X_share 48 = .ok (.aload_n 0, 1) := by decide +kernel
theorem d_X_share_49 : decode b_X_share 49 = .ok (.getfield 13, 3) := by decide +kernel
theorem d_X_share_52 : decode b_X_share 52 = .ok (.iload_n 1, 1) := by decide +kernel
theorem d_X_share_53 : decode b_X_share 53 = .ok (.iload_n 2, 1) := by decide +kernel
theorem d_X_share_54 : decode b_X_share 54 = .ok (.invokestatic 58, 3) := by decide +kernel
theorem d_X_share_57 : decode b_X_share 57 = .ok (.laload, 1) := by decide +kernel
theorem d_X_share_58 : decode b_X_share 58 = .ok (.land, 1) := by decide +kernel
theorem d_X_share_59 : decode b_X_share 59 = .ok (.invokestatic 82, 3) := by decide +kernel
theorem d_X_share_62 : decode b_X_share 62 = .ok (.istore 7, 2) := by decide +kernel
theorem d_X_share_64 : decode b_X_share 64 = .ok (.iload 7, 2) := by decide +kernel
theorem d_X_share_66 : decode b_X_share 66 = .ok (.iload 6, 2) := by decide +kernel
theorem d_X_share_68 : decode b_X_share 68 = .ok (.invokestatic 114, 3) := by decide +kernel
theorem d_X_share_71 : decode b_X_share 71 = .ok (.istore 8, 2) := by decide +kernel
theorem d_X_share_73 : decode b_X_share 73 = .ok (.iload_n 3, 1) := by decide +kernel
theorem d_X_share_74 : decode b_X_share 74 = .ok (.ifCond .ne 12, 3) := by decide +kernel
theorem d_X_share_77 : decode b_X_share 77 = .ok (.iload 7, 2) := by decide +kernel
theorem d_X_share_79 : decode b_X_share 79 = .ok (.iload 8, 2) := by decide +kernel
theorem d_X_share_81 : decode b_X_share 81 = .ok (.idiv, 1) := by decide +kernel
theorem d_X_share_82 : decode b_X_share 82 = .ok (.i2l, 1) := by decide +kernel
theorem d_X_share_83 : decode b_X_share 83 = .ok (.goto 9, 3) := by decide +kernel
theorem d_X_share_86 : decode b_X_share 86 = .ok (.iload 6, 2) := by decide +kernel
theorem d_X_share_88 : decode b_X_share 88 = .ok (.iload 8, 2) := by decide +kernel
theorem d_X_share_90 : decode b_X_share 90 = .ok (.idiv, 1) := by decide +kernel
theorem d_X_share_91 : decode b_X_share 91 = .ok (.i2l, 1) := by decide +kernel
theorem d_X_share_92 : decode b_X_share 92 = .ok (.lreturn, 1) := by decide +kernel
theorem d_X_commonDivisor_0 : decode b_X_commonDivisor 0 = .ok (.iload_n 1, 1) := by decide +kernel
theorem d_X_commonDivisor_1 : decode b_X_commonDivisor 1 = .ok (.istore_n 2, 1) := by decide +kernel
theorem d_X_commonDivisor_2 : decode b_X_commonDivisor 2 = .ok (.iload_n 2, 1) := by decide +kernel
theorem d_X_commonDivisor_3 : decode b_X_commonDivisor 3 = .ok (.iconst 1, 1) := by decide +kernel
theorem d_X_commonDivisor_4 : decode b_X_commonDivisor 4 = .ok (.if_icmp .le 23, 3) := by decide +kernel
theorem d_X_commonDivisor_7 : decode b_X_commonDivisor 7 = .ok (.iload_n 0, 1) := by decide +kernel
theorem d_X_commonDivisor_8 : decode b_X_commonDivisor 8 = .ok (.iload_n 2, 1) := by decide +kernel
theorem d_X_commonDivisor_9 : decode b_X_commonDivisor 9 = .ok (.irem, 1) := by decide +kernel
theorem d_X_commonDivisor_10 : decode b_X_commonDivisor 10 = .ok (.ifCond .ne 11, 3) := by decide +kernel
theorem d_X_commonDivisor_13 : decode b_X_commonDivisor 13 = .ok (.iload_n 1, 1) := by decide +kernel
theorem d_X_commonDivisor_14 : decode b_X_commonDivisor 14 = .ok (.iload_n 2, 1) := by decide +kernel
theorem d_X_commonDivisor_15 : decode b_X_commonDivisor 15 = .ok (.irem, 1) := by decide +kernel
theorem d_X_commonDivisor_16 : decode b_X_commonDivisor 16 = .ok (.ifCond .ne 5, 3) := by decide +kernel
theorem d_X_commonDivisor_19 : decode b_X_commonDivisor 19 = .ok (.iload_n 2, 1) := by decide +kernel
theorem d_X_commonDivisor_20 : decode b_X_commonDivisor 20 = .ok (.ireturn, 1) := by decide +kernel
theorem d_X_commonDivisor_21 : decode b_X_commonDivisor 21 = .ok (.iinc 2 (-1), 3) := by decide +kernel
theorem d_X_commonDivisor_24 : decode b_X_commonDivisor 24 = .ok (.goto (-22), 3) := by decide +kernel
theorem d_X_commonDivisor_27 : decode b_X_commonDivisor 27 = .ok (.iconst 1, 1) := by decide +kernel
theorem d_X_commonDivisor_28 : decode b_X_commonDivisor 28 = .ok (.ireturn, 1) := by decide +kernel
end
section
abbrev xs_hold (σ : sx_T) (z : (Nat → Int64)) : sx_T := ((z, x_hav σ, x_bro σ, x_cho σ, x_cnt σ), (x_rec σ, x_held σ, x_hits σ))
abbrev xs_hav (σ : sx_T) (z : (Nat → Int64)) : sx_T := ((x_hold σ, z, x_bro σ, x_cho σ, x_cnt σ), (x_rec σ, x_held σ, x_hits σ))
abbrev xs_bro (σ : sx_T) (z : (Nat → Int32)) : sx_T := ((x_hold σ, x_hav σ, z, x_cho σ, x_cnt σ), (x_rec σ, x_held σ, x_hits σ))
abbrev xs_cho (σ : sx_T) (z : (Nat → Int32)) : sx_T := ((x_hold σ, x_hav σ, x_bro σ, z, x_cnt σ), (x_rec σ, x_held σ, x_hits σ))
abbrev xs_cnt (σ : sx_T) (z : (Nat → Int32)) : sx_T := ((x_hold σ, x_hav σ, x_bro σ, x_cho σ, z), (x_rec σ, x_held σ, x_hits σ))
abbrev xs_rec (σ : sx_T) (z : Int32) : sx_T := ((x_hold σ, x_hav σ, x_bro σ, x_cho σ, x_cnt σ), (z, x_held σ, x_hits σ))
abbrev xs_held (σ : sx_T) (z : Int32) : sx_T := ((x_hold σ, x_hav σ, x_bro σ, x_cho σ, x_cnt σ), (x_rec σ, z, x_hits σ))
abbrev xs_hits (σ : sx_T) (z : Int64) : sx_T := ((x_hold σ, x_hav σ, x_bro σ, x_cho σ, x_cnt σ), (x_rec σ, x_held σ, z))
abbrev ms_rows (σ : sm_T) (z : (Nat → Int32)) : sm_T := ((z, m_bro σ, m_hits σ, m_cho σ, m_cnt σ, m_mrk σ, m_any σ, m_one σ, m_lft σ), (m_thr σ, m_rec σ, m_val σ, m_man σ))
abbrev ms_bro (σ : sm_T) (z : (Nat → Int32)) : sm_T := ((m_rows σ, z, m_hits σ, m_cho σ, m_cnt σ, m_mrk σ, m_any σ, m_one σ, m_lft σ), (m_thr σ, m_rec σ, m_val σ, m_man σ))
abbrev ms_hits (σ : sm_T) (z : (Nat → Int32)) : sm_T := ((m_rows σ, m_bro σ, z, m_cho σ, m_cnt σ, m_mrk σ, m_any σ, m_one σ, m_lft σ), (m_thr σ, m_rec σ, m_val σ, m_man σ))
abbrev ms_cho (σ : sm_T) (z : (Nat → Int32)) : sm_T := ((m_rows σ, m_bro σ, m_hits σ, z, m_cnt σ, m_mrk σ, m_any σ, m_one σ, m_lft σ), (m_thr σ, m_rec σ, m_val σ, m_man σ))
abbrev ms_cnt (σ : sm_T) (z : (Nat → Int32)) : sm_T := ((m_rows σ, m_bro σ, m_hits σ, m_cho σ, z, m_mrk σ, m_any σ, m_one σ, m_lft σ), (m_thr σ, m_rec σ, m_val σ, m_man σ))
abbrev ms_mrk (σ : sm_T) (z : (Nat → Int32)) : sm_T := ((m_rows σ, m_bro σ, m_hits σ, m_cho σ, m_cnt σ, z, m_any σ, m_one σ, m_lft σ), (m_thr σ, m_rec σ, m_val σ, m_man σ))
abbrev ms_any (σ : sm_T) (z : (Nat → Int32)) : sm_T := ((m_rows σ, m_bro σ, m_hits σ, m_cho σ, m_cnt σ, m_mrk σ, z, m_one σ, m_lft σ), (m_thr σ, m_rec σ, m_val σ, m_man σ))
abbrev ms_one (σ : sm_T) (z : (Nat → Int32)) : sm_T := ((m_rows σ, m_bro σ, m_hits σ, m_cho σ, m_cnt σ, m_mrk σ, m_any σ, z, m_lft σ), (m_thr σ, m_rec σ, m_val σ, m_man σ))
abbrev ms_lft (σ : sm_T) (z : (Nat → Int32)) : sm_T := ((m_rows σ, m_bro σ, m_hits σ, m_cho σ, m_cnt σ, m_mrk σ, m_any σ, m_one σ, z), (m_thr σ, m_rec σ, m_val σ, m_man σ))
abbrev ms_thr (σ : sm_T) (z : Int32) : sm_T := ((m_rows σ, m_bro σ, m_hits σ, m_cho σ, m_cnt σ, m_mrk σ, m_any σ, m_one σ, m_lft σ), (z, m_rec σ, m_val σ, m_man σ))
abbrev ms_rec (σ : sm_T) (z : Int32) : sm_T := ((m_rows σ, m_bro σ, m_hits σ, m_cho σ, m_cnt σ, m_mrk σ, m_any σ, m_one σ, m_lft σ), (m_thr σ, z, m_val σ, m_man σ))
abbrev ms_val (σ : sm_T) (z : Int32) : sm_T := ((m_rows σ, m_bro σ, m_hits σ, m_cho σ, m_cnt σ, m_mrk σ, m_any σ, m_one σ, m_lft σ), (m_thr σ, m_rec σ, z, m_man σ))
abbrev ms_man (σ : sm_T) (z : Int32) : sm_T := ((m_rows σ, m_bro σ, m_hits σ, m_cho σ, m_cnt σ, m_mrk σ, m_any σ, m_one σ, m_lft σ), (m_thr σ, m_rec σ, m_val σ, z))
def w_X (q : Nat → Nat) (k : Nat → ClassId) (σ : sx_T) : va_W := [(q 0, .inr (0, [.ref (q 1), .ref (q 2), .ref (q 3), .ref (q 4), .ref (q 5), .int (x_rec σ), .int (x_held σ), .long (x_hits σ)])), (q 1, .inl (k 1, 600, .inr (.inl (x_hold σ)))), (q 2, .inl (k 2, 600, .inr (.inl (x_hav σ)))), (q 3, .inl (k 3, 600, .inl (x_bro σ))), (q 4, .inl (k 4, 600, .inl (x_cho σ))), (q 5, .inl (k 5, 100, .inl (x_cnt σ)))]
abbrev ty_X (k : Nat → ClassId) : List (ClassId × FieldType) := [(k 1, .long), (k 2, .long), (k 3, .int), (k 4, .boolean), (k 5, .int)]
def w_M (q : Nat → Nat) (k : Nat → ClassId) (σ : sm_T) : va_W := [(q 0, .inr (1, [.int (m_thr σ), .int (m_rec σ), .int (m_val σ), .ref (q 1), .ref (q 2), .ref (q 3), .ref (q 4), .ref (q 5), .ref (q 6), .ref (q 7), .ref (q 8), .ref (q 9), .int (m_man σ)])), (q 1, .inl (k 1, 1200, .inl (m_rows σ))), (q 2, .inl (k 2, 600, .inl (m_bro σ))), (q 3, .inl (k 3, 61, .inl (m_hits σ))), (q 4, .inl (k 4, 600, .inl (m_cho σ))), (q 5, .inl (k 5, 100, .inl (m_cnt σ))), (q 6, .inl (k 6, 100, .inl (m_mrk σ))), (q 7, .inl (k 7, 6, .inl (m_any σ))), (q 8, .inl (k 8, 366, .inl (m_one σ))), (q 9, .inl (k 9, 61, .inl (m_lft σ)))]
abbrev ty_M (k : Nat → ClassId) : List (ClassId × FieldType) := [(k 1, .int), (k 2, .int), (k 3, .boolean), (k 4, .boolean), (k 5, .int), (k 6, .int), (k 7, .boolean), (k 8, .boolean), (k 9, .boolean)]
section RWX
variable {X : fx_M} {l : Launch} {rm : Room} {D : va_G} {cc : ByteArray} {c0 : Cond} {pc : Nat} {pl : List (Option Value)} {st : List Value} {q : Nat → Nat} {k : Nat → ClassId} {σ : sx_T}
theorem gX_holders (C : fx_C X l rm D cl_s (ty_X k) cc (c0 :: tb_l) R_X) (hd : decode cc pc = .ok (.getfield 9, 3)) (kk : fx_J X (w_X q k σ) (pc + 3) pl (.ref (q 1) :: st)) : fx_J X (w_X q k σ) pc pl (.ref (q 0) :: st) := jr_get C (fun w h => List.mem_cons_of_mem _ (u_X_in w h)) (ci := 0) rfl 0 0 rfl (by decide) (List.mem_cons_of_mem _ fl_X_holders) rfl hd kk
theorem aX_holders {j : Nat} (C : fx_C X l rm D cl_s (ty_X k) cc (c0 :: tb_l) R_X) (hj : j < 600) (hd : decode cc pc = .ok (.laload, 1)) (kk : fx_J X (w_X q k σ) (pc + 1) pl (.long (x_hold σ j) :: st)) : fx_J X (w_X q k σ) pc pl (.int (nI j) :: .ref (q 1) :: st) := jr_lald C 1 0 rfl rfl hj (by decide) hd kk
theorem sX_holders {j : Nat} {x : Int64} (C : fx_C X l rm D cl_s (ty_X k) cc (c0 :: tb_l) R_X) (hj : j < 600) (hd : decode cc pc = .ok (.lastore, 1)) (kk : fx_J X (w_X q k (xs_hold σ (vp_updL (x_hold σ) j x))) (pc + 1) pl st) : fx_J X (w_X q k σ) pc pl (.long x :: .int (nI j) :: .ref (q 1) :: st) := jr_last C 1 0 rfl rfl hj (by decide) rfl hd kk
theorem gX_havers (C : fx_C X l rm D cl_s (ty_X k) cc (c0 :: tb_l) R_X) (hd : decode cc pc = .ok (.getfield 13, 3)) (kk : fx_J X (w_X q k σ) (pc + 3) pl (.ref (q 2) :: st)) : fx_J X (w_X q k σ) pc pl (.ref (q 0) :: st) := jr_get C (fun w h => List.mem_cons_of_mem _ (u_X_in w h)) (ci := 0) rfl 0 1 rfl (by decide) (List.mem_cons_of_mem _ fl_X_havers) rfl hd kk
theorem aX_havers {j : Nat} (C : fx_C X l rm D cl_s (ty_X k) cc (c0 :: tb_l) R_X) (hj : j < 600) (hd : decode cc pc = .ok (.laload, 1)) (kk : fx_J X (w_X q k σ) (pc + 1) pl (.long (x_hav σ j) :: st)) : fx_J X (w_X q k σ) pc pl (.int (nI j) :: .ref (q 2) :: st) := jr_lald C 2 1 rfl rfl hj (by decide) hd kk
theorem sX_havers {j : Nat} {x : Int64} (C : fx_C X l rm D cl_s (ty_X k) cc (c0 :: tb_l) R_X) (hj : j < 600) (hd : decode cc pc = .ok (.lastore, 1)) (kk : fx_J X (w_X q k (xs_hav σ (vp_updL (x_hav σ) j x))) (pc + 1) pl st) : fx_J X (w_X q k σ) pc pl (.long x :: .int (nI j) :: .ref (q 2) :: st) := jr_last C 2 1 rfl rfl hj (by decide) rfl hd kk
theorem gX_broaderOf (C : fx_C X l rm D cl_s (ty_X k) cc (c0 :: tb_l) R_X) (hd : decode cc pc = .ok (.getfield 16, 3)) (kk : fx_J X (w_X q k σ) (pc + 3) pl (.ref (q 3) :: st)) : fx_J X (w_X q k σ) pc pl (.ref (q 0) :: st) := jr_get C (fun w h => List.mem_cons_of_mem _ (u_X_in w h)) (ci := 0) rfl 0 2 rfl (by decide) (List.mem_cons_of_mem _ fl_X_broaderOf) rfl hd kk
theorem aX_broaderOf {j : Nat} (C : fx_C X l rm D cl_s (ty_X k) cc (c0 :: tb_l) R_X) (hj : j < 600) (hd : decode cc pc = .ok (.iaload, 1)) (kk : fx_J X (w_X q k σ) (pc + 1) pl (.int (x_bro σ j) :: st)) : fx_J X (w_X q k σ) pc pl (.int (nI j) :: .ref (q 3) :: st) := jr_iald C 3 2 rfl rfl hj (by decide) hd kk
theorem sX_broaderOf {j : Nat} {x : Int32} (C : fx_C X l rm D cl_s (ty_X k) cc (c0 :: tb_l) R_X) (hj : j < 600) (hd : decode cc pc = .ok (.iastore, 1)) (kk : fx_J X (w_X q k (xs_bro σ (upd (x_bro σ) j x))) (pc + 1) pl st) : fx_J X (w_X q k σ) pc pl (.int x :: .int (nI j) :: .ref (q 3) :: st) := jr_iast C 3 2 rfl rfl hj (by decide) rfl hd kk
theorem gX_chosen (C : fx_C X l rm D cl_s (ty_X k) cc (c0 :: tb_l) R_X) (hd : decode cc pc = .ok (.getfield 26, 3)) (kk : fx_J X (w_X q k σ) (pc + 3) pl (.ref (q 4) :: st)) : fx_J X (w_X q k σ) pc pl (.ref (q 0) :: st) := jr_get C (fun w h => List.mem_cons_of_mem _ (u_X_in w h)) (ci := 0) rfl 0 3 rfl (by decide) (List.mem_cons_of_mem _ fl_X_chosen) rfl hd kk
theorem aX_chosen {j : Nat} (C : fx_C X l rm D cl_s (ty_X k) cc (c0 :: tb_l) R_X) (hj : j < 600) (hd : decode cc pc = .ok (.baload, 1)) (kk : fx_J X (w_X q k σ) (pc + 1) pl (.int (x_cho σ j) :: st)) : fx_J X (w_X q k σ) pc pl (.int (nI j) :: .ref (q 4) :: st) := jr_zald C 4 3 rfl rfl hj (by decide) hd kk
theorem sX_chosen {j : Nat} {x : Int32} (C : fx_C X l rm D cl_s (ty_X k) cc (c0 :: tb_l) R_X) (hj : j < 600) (h01 : x = nI 0 ∨ x = nI 1) (hd : decode cc pc = .ok (.bastore, 1)) (kk : fx_J X (w_X q k (xs_cho σ (upd (x_cho σ) j x))) (pc + 1) pl st) : fx_J X (w_X q k σ) pc pl (.int x :: .int (nI j) :: .ref (q 4) :: st) := jr_zast C 4 3 rfl rfl hj (by decide) h01 rfl hd kk
theorem gX_counts (C : fx_C X l rm D cl_s (ty_X k) cc (c0 :: tb_l) R_X) (hd : decode cc pc = .ok (.getfield 30, 3)) (kk : fx_J X (w_X q k σ) (pc + 3) pl (.ref (q 5) :: st)) : fx_J X (w_X q k σ) pc pl (.ref (q 0) :: st) := jr_get C (fun w h => List.mem_cons_of_mem _ (u_X_in w h)) (ci := 0) rfl 0 4 rfl (by decide) (List.mem_cons_of_mem _ fl_X_counts) rfl hd kk
theorem aX_counts {j : Nat} (C : fx_C X l rm D cl_s (ty_X k) cc (c0 :: tb_l) R_X) (hj : j < 100) (hd : decode cc pc = .ok (.iaload, 1)) (kk : fx_J X (w_X q k σ) (pc + 1) pl (.int (x_cnt σ j) :: st)) : fx_J X (w_X q k σ) pc pl (.int (nI j) :: .ref (q 5) :: st) := jr_iald C 5 4 rfl rfl hj (by decide) hd kk
theorem sX_counts {j : Nat} {x : Int32} (C : fx_C X l rm D cl_s (ty_X k) cc (c0 :: tb_l) R_X) (hj : j < 100) (hd : decode cc pc = .ok (.iastore, 1)) (kk : fx_J X (w_X q k (xs_cnt σ (upd (x_cnt σ) j x))) (pc + 1) pl st) : fx_J X (w_X q k σ) pc pl (.int x :: .int (nI j) :: .ref (q 5) :: st) := jr_iast C 5 4 rfl rfl hj (by decide) rfl hd kk
theorem gX_records (C : fx_C X l rm D cl_s (ty_X k) cc (c0 :: tb_l) R_X) (hd : decode cc pc = .ok (.getfield 33, 3)) (kk : fx_J X (w_X q k σ) (pc + 3) pl (.int (x_rec σ) :: st)) : fx_J X (w_X q k σ) pc pl (.ref (q 0) :: st) := jr_get C (fun w h => List.mem_cons_of_mem _ (u_X_in w h)) (ci := 0) rfl 0 5 rfl (by decide) (List.mem_cons_of_mem _ fl_X_records) rfl hd kk
theorem pX_records {v : Int32} (C : fx_C X l rm D cl_s (ty_X k) cc (c0 :: tb_l) R_X) (hd : decode cc pc = .ok (.putfield 33, 3)) (kk : fx_J X (w_X q k (xs_rec σ v)) (pc + 3) pl st) : fx_J X (w_X q k σ) pc pl (.int v :: .ref (q 0) :: st) := jr_put (ty := .int) C (fun w h => List.mem_cons_of_mem _ (u_X_in w h)) t_X t_X_ok n_X (ci := 0) rfl 0 5 rfl (by decide) (List.mem_cons_of_mem _ fl_X_records) rfl (t_X_ok 5 (by decide)) rfl rfl (Nat.le_of_ble_eq_true rfl) rfl hd kk
theorem gX_held (C : fx_C X l rm D cl_s (ty_X k) cc (c0 :: tb_l) R_X) (hd : decode cc pc = .ok (.getfield 37, 3)) (kk : fx_J X (w_X q k σ) (pc + 3) pl (.int (x_held σ) :: st)) : fx_J X (w_X q k σ) pc pl (.ref (q 0) :: st) := jr_get C (fun w h => List.mem_cons_of_mem _ (u_X_in w h)) (ci := 0) rfl 0 6 rfl (by decide) (List.mem_cons_of_mem _ fl_X_held) rfl hd kk
theorem pX_held {v : Int32} (C : fx_C X l rm D cl_s (ty_X k) cc (c0 :: tb_l) R_X) (hd : decode cc pc = .ok (.putfield 37, 3)) (kk : fx_J X (w_X q k (xs_held σ v)) (pc + 3) pl st) : fx_J X (w_X q k σ) pc pl (.int v :: .ref (q 0) :: st) := jr_put (ty := .int) C (fun w h => List.mem_cons_of_mem _ (u_X_in w h)) t_X t_X_ok n_X (ci := 0) rfl 0 6 rfl (by decide) (List.mem_cons_of_mem _ fl_X_held) rfl (t_X_ok 6 (by decide)) rfl rfl (Nat.le_of_ble_eq_true rfl) rfl hd kk
theorem gX_hits (C : fx_C X l rm D cl_s (ty_X k) cc (c0 :: tb_l) R_X) (hd : decode cc pc = .ok (.getfield 40, 3)) (kk : fx_J X (w_X q k σ) (pc + 3) pl (.long (x_hits σ) :: st)) : fx_J X (w_X q k σ) pc pl (.ref (q 0) :: st) := jr_get C (fun w h => List.mem_cons_of_mem _ (u_X_in w h)) (ci := 0) rfl 0 7 rfl (by decide) (List.mem_cons_of_mem _ fl_X_hits) rfl hd kk
theorem pX_hits {v : Int64} (C : fx_C X l rm D cl_s (ty_X k) cc (c0 :: tb_l) R_X) (hd : decode cc pc = .ok (.putfield 40, 3)) (kk : fx_J X (w_X q k (xs_hits σ v)) (pc + 3) pl st) : fx_J X (w_X q k σ) pc pl (.long v :: .ref (q 0) :: st) := jr_put (ty := .long) C (fun w h => List.mem_cons_of_mem _ (u_X_in w h)) t_X t_X_ok n_X (ci := 0) rfl 0 7 rfl (by decide) (List.mem_cons_of_mem _ fl_X_hits) rfl (t_X_ok 7 (by decide)) rfl rfl (Nat.le_of_ble_eq_true rfl) rfl hd kk
end RWX
section RWM
variable {X : fx_M} {l : Launch} {rm : Room} {D : va_G} {cc : ByteArray} {c0 : Cond} {pc : Nat} {pl : List (Option Value)} {st : List Value} {q : Nat → Nat} {k : Nat → ClassId} {σ : sm_T}
theorem gM_rows (C : fx_C X l rm D cl_s (ty_M k) cc (c0 :: tb_l) R_M) (hd : decode cc pc = .ok (.getfield 7, 3)) (kk : fx_J X (w_M q k σ) (pc + 3) pl (.ref (q 1) :: st)) : fx_J X (w_M q k σ) pc pl (.ref (q 0) :: st) := jr_get C (fun w h => List.mem_cons_of_mem _ (u_M_in w h)) (ci := 1) rfl 0 3 rfl (by decide) (List.mem_cons_of_mem _ fl_M_rows) rfl hd kk
theorem aM_rows {j : Nat} (C : fx_C X l rm D cl_s (ty_M k) cc (c0 :: tb_l) R_M) (hj : j < 1200) (hd : decode cc pc = .ok (.iaload, 1)) (kk : fx_J X (w_M q k σ) (pc + 1) pl (.int (m_rows σ j) :: st)) : fx_J X (w_M q k σ) pc pl (.int (nI j) :: .ref (q 1) :: st) := jr_iald C 1 0 rfl rfl hj (by decide) hd kk
theorem sM_rows {j : Nat} {x : Int32} (C : fx_C X l rm D cl_s (ty_M k) cc (c0 :: tb_l) R_M) (hj : j < 1200) (hd : decode cc pc = .ok (.iastore, 1)) (kk : fx_J X (w_M q k (ms_rows σ (upd (m_rows σ) j x))) (pc + 1) pl st) : fx_J X (w_M q k σ) pc pl (.int x :: .int (nI j) :: .ref (q 1) :: st) := jr_iast C 1 0 rfl rfl hj (by decide) rfl hd kk
theorem gM_broader (C : fx_C X l rm D cl_s (ty_M k) cc (c0 :: tb_l) R_M) (hd : decode cc pc = .ok (.getfield 13, 3)) (kk : fx_J X (w_M q k σ) (pc + 3) pl (.ref (q 2) :: st)) : fx_J X (w_M q k σ) pc pl (.ref (q 0) :: st) := jr_get C (fun w h => List.mem_cons_of_mem _ (u_M_in w h)) (ci := 1) rfl 0 4 rfl (by decide) (List.mem_cons_of_mem _ fl_M_broader) rfl hd kk
theorem aM_broader {j : Nat} (C : fx_C X l rm D cl_s (ty_M k) cc (c0 :: tb_l) R_M) (hj : j < 600) (hd : decode cc pc = .ok (.iaload, 1)) (kk : fx_J X (w_M q k σ) (pc + 1) pl (.int (m_bro σ j) :: st)) : fx_J X (w_M q k σ) pc pl (.int (nI j) :: .ref (q 2) :: st) := jr_iald C 2 1 rfl rfl hj (by decide) hd kk
theorem sM_broader {j : Nat} {x : Int32} (C : fx_C X l rm D cl_s (ty_M k) cc (c0 :: tb_l) R_M) (hj : j < 600) (hd : decode cc pc = .ok (.iastore, 1)) (kk : fx_J X (w_M q k (ms_bro σ (upd (m_bro σ) j x))) (pc + 1) pl st) : fx_J X (w_M q k σ) pc pl (.int x :: .int (nI j) :: .ref (q 2) :: st) := jr_iast C 2 1 rfl rfl hj (by decide) rfl hd kk
theorem gM_hits (C : fx_C X l rm D cl_s (ty_M k) cc (c0 :: tb_l) R_M) (hd : decode cc pc = .ok (.getfield 16, 3)) (kk : fx_J X (w_M q k σ) (pc + 3) pl (.ref (q 3) :: st)) : fx_J X (w_M q k σ) pc pl (.ref (q 0) :: st) := jr_get C (fun w h => List.mem_cons_of_mem _ (u_M_in w h)) (ci := 1) rfl 0 5 rfl (by decide) (List.mem_cons_of_mem _ fl_M_hits) rfl hd kk
theorem aM_hits {j : Nat} (C : fx_C X l rm D cl_s (ty_M k) cc (c0 :: tb_l) R_M) (hj : j < 61) (hd : decode cc pc = .ok (.baload, 1)) (kk : fx_J X (w_M q k σ) (pc + 1) pl (.int (m_hits σ j) :: st)) : fx_J X (w_M q k σ) pc pl (.int (nI j) :: .ref (q 3) :: st) := jr_zald C 3 2 rfl rfl hj (by decide) hd kk
theorem sM_hits {j : Nat} {x : Int32} (C : fx_C X l rm D cl_s (ty_M k) cc (c0 :: tb_l) R_M) (hj : j < 61) (h01 : x = nI 0 ∨ x = nI 1) (hd : decode cc pc = .ok (.bastore, 1)) (kk : fx_J X (w_M q k (ms_hits σ (upd (m_hits σ) j x))) (pc + 1) pl st) : fx_J X (w_M q k σ) pc pl (.int x :: .int (nI j) :: .ref (q 3) :: st) := jr_zast C 3 2 rfl rfl hj (by decide) h01 rfl hd kk
theorem gM_chosen (C : fx_C X l rm D cl_s (ty_M k) cc (c0 :: tb_l) R_M) (hd : decode cc pc = .ok (.getfield 20, 3)) (kk : fx_J X (w_M q k σ) (pc + 3) pl (.ref (q 4) :: st)) : fx_J X (w_M q k σ) pc pl (.ref (q 0) :: st) := jr_get C (fun w h => List.mem_cons_of_mem _ (u_M_in w h)) (ci := 1) rfl 0 6 rfl (by decide) (List.mem_cons_of_mem _ fl_M_chosen) rfl hd kk
theorem aM_chosen {j : Nat} (C : fx_C X l rm D cl_s (ty_M k) cc (c0 :: tb_l) R_M) (hj : j < 600) (hd : decode cc pc = .ok (.baload, 1)) (kk : fx_J X (w_M q k σ) (pc + 1) pl (.int (m_cho σ j) :: st)) : fx_J X (w_M q k σ) pc pl (.int (nI j) :: .ref (q 4) :: st) := jr_zald C 4 3 rfl rfl hj (by decide) hd kk
theorem sM_chosen {j : Nat} {x : Int32} (C : fx_C X l rm D cl_s (ty_M k) cc (c0 :: tb_l) R_M) (hj : j < 600) (h01 : x = nI 0 ∨ x = nI 1) (hd : decode cc pc = .ok (.bastore, 1)) (kk : fx_J X (w_M q k (ms_cho σ (upd (m_cho σ) j x))) (pc + 1) pl st) : fx_J X (w_M q k σ) pc pl (.int x :: .int (nI j) :: .ref (q 4) :: st) := jr_zast C 4 3 rfl rfl hj (by decide) h01 rfl hd kk
theorem gM_counts (C : fx_C X l rm D cl_s (ty_M k) cc (c0 :: tb_l) R_M) (hd : decode cc pc = .ok (.getfield 23, 3)) (kk : fx_J X (w_M q k σ) (pc + 3) pl (.ref (q 5) :: st)) : fx_J X (w_M q k σ) pc pl (.ref (q 0) :: st) := jr_get C (fun w h => List.mem_cons_of_mem _ (u_M_in w h)) (ci := 1) rfl 0 7 rfl (by decide) (List.mem_cons_of_mem _ fl_M_counts) rfl hd kk
theorem aM_counts {j : Nat} (C : fx_C X l rm D cl_s (ty_M k) cc (c0 :: tb_l) R_M) (hj : j < 100) (hd : decode cc pc = .ok (.iaload, 1)) (kk : fx_J X (w_M q k σ) (pc + 1) pl (.int (m_cnt σ j) :: st)) : fx_J X (w_M q k σ) pc pl (.int (nI j) :: .ref (q 5) :: st) := jr_iald C 5 4 rfl rfl hj (by decide) hd kk
theorem sM_counts {j : Nat} {x : Int32} (C : fx_C X l rm D cl_s (ty_M k) cc (c0 :: tb_l) R_M) (hj : j < 100) (hd : decode cc pc = .ok (.iastore, 1)) (kk : fx_J X (w_M q k (ms_cnt σ (upd (m_cnt σ) j x))) (pc + 1) pl st) : fx_J X (w_M q k σ) pc pl (.int x :: .int (nI j) :: .ref (q 5) :: st) := jr_iast C 5 4 rfl rfl hj (by decide) rfl hd kk
theorem gM_marks (C : fx_C X l rm D cl_s (ty_M k) cc (c0 :: tb_l) R_M) (hd : decode cc pc = .ok (.getfield 26, 3)) (kk : fx_J X (w_M q k σ) (pc + 3) pl (.ref (q 6) :: st)) : fx_J X (w_M q k σ) pc pl (.ref (q 0) :: st) := jr_get C (fun w h => List.mem_cons_of_mem _ (u_M_in w h)) (ci := 1) rfl 0 8 rfl (by decide) (List.mem_cons_of_mem _ fl_M_marks) rfl hd kk
theorem aM_marks {j : Nat} (C : fx_C X l rm D cl_s (ty_M k) cc (c0 :: tb_l) R_M) (hj : j < 100) (hd : decode cc pc = .ok (.iaload, 1)) (kk : fx_J X (w_M q k σ) (pc + 1) pl (.int (m_mrk σ j) :: st)) : fx_J X (w_M q k σ) pc pl (.int (nI j) :: .ref (q 6) :: st) := jr_iald C 6 5 rfl rfl hj (by decide) hd kk
theorem sM_marks {j : Nat} {x : Int32} (C : fx_C X l rm D cl_s (ty_M k) cc (c0 :: tb_l) R_M) (hj : j < 100) (hd : decode cc pc = .ok (.iastore, 1)) (kk : fx_J X (w_M q k (ms_mrk σ (upd (m_mrk σ) j x))) (pc + 1) pl st) : fx_J X (w_M q k σ) pc pl (.int x :: .int (nI j) :: .ref (q 6) :: st) := jr_iast C 6 5 rfl rfl hj (by decide) rfl hd kk
theorem gM_any (C : fx_C X l rm D cl_s (ty_M k) cc (c0 :: tb_l) R_M) (hd : decode cc pc = .ok (.getfield 29, 3)) (kk : fx_J X (w_M q k σ) (pc + 3) pl (.ref (q 7) :: st)) : fx_J X (w_M q k σ) pc pl (.ref (q 0) :: st) := jr_get C (fun w h => List.mem_cons_of_mem _ (u_M_in w h)) (ci := 1) rfl 0 9 rfl (by decide) (List.mem_cons_of_mem _ fl_M_any) rfl hd kk
theorem aM_any {j : Nat} (C : fx_C X l rm D cl_s (ty_M k) cc (c0 :: tb_l) R_M) (hj : j < 6) (hd : decode cc pc = .ok (.baload, 1)) (kk : fx_J X (w_M q k σ) (pc + 1) pl (.int (m_any σ j) :: st)) : fx_J X (w_M q k σ) pc pl (.int (nI j) :: .ref (q 7) :: st) := jr_zald C 7 6 rfl rfl hj (by decide) hd kk
theorem sM_any {j : Nat} {x : Int32} (C : fx_C X l rm D cl_s (ty_M k) cc (c0 :: tb_l) R_M) (hj : j < 6) (h01 : x = nI 0 ∨ x = nI 1) (hd : decode cc pc = .ok (.bastore, 1)) (kk : fx_J X (w_M q k (ms_any σ (upd (m_any σ) j x))) (pc + 1) pl st) : fx_J X (w_M q k σ) pc pl (.int x :: .int (nI j) :: .ref (q 7) :: st) := jr_zast C 7 6 rfl rfl hj (by decide) h01 rfl hd kk
theorem gM_one (C : fx_C X l rm D cl_s (ty_M k) cc (c0 :: tb_l) R_M) (hd : decode cc pc = .ok (.getfield 32, 3)) (kk : fx_J X (w_M q k σ) (pc + 3) pl (.ref (q 8) :: st)) : fx_J X (w_M q k σ) pc pl (.ref (q 0) :: st) := jr_get C (fun w h => List.mem_cons_of_mem _ (u_M_in w h)) (ci := 1) rfl 0 10 rfl (by decide) (List.mem_cons_of_mem _ fl_M_one) rfl hd kk
theorem aM_one {j : Nat} (C : fx_C X l rm D cl_s (ty_M k) cc (c0 :: tb_l) R_M) (hj : j < 366) (hd : decode cc pc = .ok (.baload, 1)) (kk : fx_J X (w_M q k σ) (pc + 1) pl (.int (m_one σ j) :: st)) : fx_J X (w_M q k σ) pc pl (.int (nI j) :: .ref (q 8) :: st) := jr_zald C 8 7 rfl rfl hj (by decide) hd kk
theorem sM_one {j : Nat} {x : Int32} (C : fx_C X l rm D cl_s (ty_M k) cc (c0 :: tb_l) R_M) (hj : j < 366) (h01 : x = nI 0 ∨ x = nI 1) (hd : decode cc pc = .ok (.bastore, 1)) (kk : fx_J X (w_M q k (ms_one σ (upd (m_one σ) j x))) (pc + 1) pl st) : fx_J X (w_M q k σ) pc pl (.int x :: .int (nI j) :: .ref (q 8) :: st) := jr_zast C 8 7 rfl rfl hj (by decide) h01 rfl hd kk
theorem gM_left (C : fx_C X l rm D cl_s (ty_M k) cc (c0 :: tb_l) R_M) (hd : decode cc pc = .ok (.getfield 35, 3)) (kk : fx_J X (w_M q k σ) (pc + 3) pl (.ref (q 9) :: st)) : fx_J X (w_M q k σ) pc pl (.ref (q 0) :: st) := jr_get C (fun w h => List.mem_cons_of_mem _ (u_M_in w h)) (ci := 1) rfl 0 11 rfl (by decide) (List.mem_cons_of_mem _ fl_M_left) rfl hd kk
theorem aM_left {j : Nat} (C : fx_C X l rm D cl_s (ty_M k) cc (c0 :: tb_l) R_M) (hj : j < 61) (hd : decode cc pc = .ok (.baload, 1)) (kk : fx_J X (w_M q k σ) (pc + 1) pl (.int (m_lft σ j) :: st)) : fx_J X (w_M q k σ) pc pl (.int (nI j) :: .ref (q 9) :: st) := jr_zald C 9 8 rfl rfl hj (by decide) hd kk
theorem sM_left {j : Nat} {x : Int32} (C : fx_C X l rm D cl_s (ty_M k) cc (c0 :: tb_l) R_M) (hj : j < 61) (h01 : x = nI 0 ∨ x = nI 1) (hd : decode cc pc = .ok (.bastore, 1)) (kk : fx_J X (w_M q k (ms_lft σ (upd (m_lft σ) j x))) (pc + 1) pl st) : fx_J X (w_M q k σ) pc pl (.int x :: .int (nI j) :: .ref (q 9) :: st) := jr_zast C 9 8 rfl rfl hj (by decide) h01 rfl hd kk
theorem gM_thrown (C : fx_C X l rm D cl_s (ty_M k) cc (c0 :: tb_l) R_M) (hd : decode cc pc = .ok (.getfield 38, 3)) (kk : fx_J X (w_M q k σ) (pc + 3) pl (.int (m_thr σ) :: st)) : fx_J X (w_M q k σ) pc pl (.ref (q 0) :: st) := jr_get C (fun w h => List.mem_cons_of_mem _ (u_M_in w h)) (ci := 1) rfl 0 0 rfl (by decide) (List.mem_cons_of_mem _ fl_M_thrown) rfl hd kk
theorem pM_thrown {v : Int32} (C : fx_C X l rm D cl_s (ty_M k) cc (c0 :: tb_l) R_M) (hd : decode cc pc = .ok (.putfield 38, 3)) (kk : fx_J X (w_M q k (ms_thr σ v)) (pc + 3) pl st) : fx_J X (w_M q k σ) pc pl (.int v :: .ref (q 0) :: st) := jr_put (ty := .int) C (fun w h => List.mem_cons_of_mem _ (u_M_in w h)) t_M t_M_ok n_M (ci := 1) rfl 0 0 rfl (by decide) (List.mem_cons_of_mem _ fl_M_thrown) rfl (t_M_ok 0 (by decide)) rfl rfl (Nat.le_of_ble_eq_true rfl) rfl hd kk
theorem gM_records (C : fx_C X l rm D cl_s (ty_M k) cc (c0 :: tb_l) R_M) (hd : decode cc pc = .ok (.getfield 42, 3)) (kk : fx_J X (w_M q k σ) (pc + 3) pl (.int (m_rec σ) :: st)) : fx_J X (w_M q k σ) pc pl (.ref (q 0) :: st) := jr_get C (fun w h => List.mem_cons_of_mem _ (u_M_in w h)) (ci := 1) rfl 0 1 rfl (by decide) (List.mem_cons_of_mem _ fl_M_records) rfl hd kk
theorem pM_records {v : Int32} (C : fx_C X l rm D cl_s (ty_M k) cc (c0 :: tb_l) R_M) (hd : decode cc pc = .ok (.putfield 42, 3)) (kk : fx_J X (w_M q k (ms_rec σ v)) (pc + 3) pl st) : fx_J X (w_M q k σ) pc pl (.int v :: .ref (q 0) :: st) := jr_put (ty := .int) C (fun w h => List.mem_cons_of_mem _ (u_M_in w h)) t_M t_M_ok n_M (ci := 1) rfl 0 1 rfl (by decide) (List.mem_cons_of_mem _ fl_M_records) rfl (t_M_ok 1 (by decide)) rfl rfl (Nat.le_of_ble_eq_true rfl) rfl hd kk
theorem gM_values (C : fx_C X l rm D cl_s (ty_M k) cc (c0 :: tb_l) R_M) (hd : decode cc pc = .ok (.getfield 49, 3)) (kk : fx_J X (w_M q k σ) (pc + 3) pl (.int (m_val σ) :: st)) : fx_J X (w_M q k σ) pc pl (.ref (q 0) :: st) := jr_get C (fun w h => List.mem_cons_of_mem _ (u_M_in w h)) (ci := 1) rfl 0 2 rfl (by decide) (List.mem_cons_of_mem _ fl_M_values) rfl hd kk
theorem pM_values {v : Int32} (C : fx_C X l rm D cl_s (ty_M k) cc (c0 :: tb_l) R_M) (hd : decode cc pc = .ok (.putfield 49, 3)) (kk : fx_J X (w_M q k (ms_val σ v)) (pc + 3) pl st) : fx_J X (w_M q k σ) pc pl (.int v :: .ref (q 0) :: st) := jr_put (ty := .int) C (fun w h => List.mem_cons_of_mem _ (u_M_in w h)) t_M t_M_ok n_M (ci := 1) rfl 0 2 rfl (by decide) (List.mem_cons_of_mem _ fl_M_values) rfl (t_M_ok 2 (by decide)) rfl rfl (Nat.le_of_ble_eq_true rfl) rfl hd kk
theorem gM_many (C : fx_C X l rm D cl_s (ty_M k) cc (c0 :: tb_l) R_M) (hd : decode cc pc = .ok (.getfield 67, 3)) (kk : fx_J X (w_M q k σ) (pc + 3) pl (.int (m_man σ) :: st)) : fx_J X (w_M q k σ) pc pl (.ref (q 0) :: st) := jr_get C (fun w h => List.mem_cons_of_mem _ (u_M_in w h)) (ci := 1) rfl 0 12 rfl (by decide) (List.mem_cons_of_mem _ fl_M_many) rfl hd kk
theorem pM_many {v : Int32} (C : fx_C X l rm D cl_s (ty_M k) cc (c0 :: tb_l) R_M) (hd : decode cc pc = .ok (.putfield 67, 3)) (kk : fx_J X (w_M q k (ms_man σ v)) (pc + 3) pl st) : fx_J X (w_M q k σ) pc pl (.int v :: .ref (q 0) :: st) := jr_put (ty := .int) C (fun w h => List.mem_cons_of_mem _ (u_M_in w h)) t_M t_M_ok n_M (ci := 1) rfl 0 12 rfl (by decide) (List.mem_cons_of_mem _ fl_M_many) rfl (t_M_ok 12 (by decide)) rfl rfl (Nat.le_of_ble_eq_true rfl) rfl hd kk
end RWM
abbrev rm_JA_fill : Room := { frames := 0, cells := 0, slots := 0, locals := 0 }
abbrev rm_X_record : Room := { frames := 0, cells := 0, slots := 0, locals := 0 }
abbrev rm_X_value : Room := { frames := 3, cells := 0, slots := 0, locals := 68 }
abbrev rm_X_isRecord : Room := { frames := 0, cells := 0, slots := 0, locals := 0 }
abbrev rm_X_isFacet : Room := { frames := 0, cells := 0, slots := 0, locals := 0 }
abbrev rm_X_isValue : Room := { frames := 0, cells := 0, slots := 0, locals := 0 }
abbrev rm_X_holds : Room := { frames := 1, cells := 0, slots := 0, locals := 21 }
abbrev rm_X_cell : Room := { frames := 0, cells := 0, slots := 0, locals := 0 }
abbrev rm_X_bit : Room := { frames := 0, cells := 0, slots := 0, locals := 0 }
abbrev rm_X_raise : Room := { frames := 1, cells := 0, slots := 0, locals := 21 }
abbrev rm_X_heldOf : Room := { frames := 2, cells := 0, slots := 0, locals := 44 }
abbrev rm_X_gone : Room := { frames := 3, cells := 0, slots := 0, locals := 71 }
abbrev rm_X_raiseAll : Room := { frames := 2, cells := 0, slots := 0, locals := 47 }
abbrev rm_X_narrower : Room := { frames := 3, cells := 0, slots := 0, locals := 71 }
abbrev rm_X_isAtOrBelow : Room := { frames := 1, cells := 0, slots := 0, locals := 21 }
abbrev rm_X_hit : Room := { frames := 1, cells := 0, slots := 0, locals := 21 }
abbrev rm_JL_bitCount : Room := { frames := 0, cells := 0, slots := 0, locals := 0 }
abbrev rm_X_choose : Room := { frames := 3, cells := 0, slots := 0, locals := 69 }
abbrev rm_X_hitsLeft : Room := { frames := 2, cells := 0, slots := 0, locals := 46 }
abbrev rm_X_admitted : Room := { frames := 1, cells := 0, slots := 0, locals := 21 }
abbrev rm_X_count : Room := { frames := 3, cells := 0, slots := 0, locals := 69 }
abbrev rm_X_top : Room := { frames := 4, cells := 0, slots := 0, locals := 93 }
abbrev rm_X_countValues : Room := { frames := 3, cells := 0, slots := 0, locals := 69 }
abbrev rm_X_ranked : Room := { frames := 0, cells := 0, slots := 0, locals := 0 }
abbrev rm_X_below : Room := { frames := 4, cells := 0, slots := 0, locals := 93 }
abbrev rm_X_dropOthersThanBelow : Room := { frames := 1, cells := 0, slots := 0, locals := 21 }
abbrev rm_X_band : Room := { frames := 3, cells := 0, slots := 0, locals := 69 }
abbrev rm_X_holdersBetween : Room := { frames := 1, cells := 0, slots := 0, locals := 21 }
abbrev rm_JM_min : Room := { frames := 0, cells := 0, slots := 0, locals := 0 }
abbrev rm_JM_max : Room := { frames := 0, cells := 0, slots := 0, locals := 0 }
abbrev rm_X_missing : Room := { frames := 3, cells := 0, slots := 0, locals := 69 }
abbrev rm_X_left : Room := { frames := 3, cells := 0, slots := 0, locals := 69 }
abbrev rm_X_commonDivisor : Room := { frames := 0, cells := 0, slots := 0, locals := 0 }
abbrev rm_M_thrown : Room := { frames := 0, cells := 0, slots := 0, locals := 0 }
abbrev rm_M_record : Room := { frames := 0, cells := 0, slots := 0, locals := 0 }
abbrev rm_M_value : Room := { frames := 2, cells := 0, slots := 0, locals := 41 }
abbrev rm_M_isRecord : Room := { frames := 0, cells := 0, slots := 0, locals := 0 }
abbrev rm_M_isValue : Room := { frames := 1, cells := 0, slots := 0, locals := 20 }
abbrev rm_M_isFacet : Room := { frames := 0, cells := 0, slots := 0, locals := 0 }
abbrev rm_M_find : Room := { frames := 0, cells := 0, slots := 0, locals := 0 }
abbrev rm_M_gone : Room := { frames := 1, cells := 0, slots := 0, locals := 24 }
abbrev rm_M_narrower : Room := { frames := 2, cells := 0, slots := 0, locals := 41 }
abbrev rm_M_lies : Room := { frames := 0, cells := 0, slots := 0, locals := 0 }
abbrev rm_M_hit : Room := { frames := 1, cells := 0, slots := 0, locals := 21 }
abbrev rm_M_choose : Room := { frames := 2, cells := 0, slots := 0, locals := 41 }
abbrev rm_M_sort : Room := { frames := 0, cells := 0, slots := 0, locals := 0 }
abbrev rm_M_count : Room := { frames := 2, cells := 0, slots := 0, locals := 47 }
abbrev rm_M_reckon : Room := { frames := 1, cells := 0, slots := 0, locals := 23 }
abbrev rm_M_top : Room := { frames := 2, cells := 0, slots := 0, locals := 47 }
abbrev rm_M_ranked : Room := { frames := 0, cells := 0, slots := 0, locals := 0 }
abbrev rm_M_below : Room := { frames := 2, cells := 0, slots := 0, locals := 47 }
abbrev rm_M_band : Room := { frames := 1, cells := 0, slots := 0, locals := 23 }
abbrev rm_M_share : Room := { frames := 2, cells := 0, slots := 0, locals := 47 }
abbrev rm_M_missing : Room := { frames := 1, cells := 0, slots := 0, locals := 23 }
abbrev rm_M_left : Room := { frames := 1, cells := 0, slots := 0, locals := 23 }
theorem qX_X_isRecord {X : fx_M} {l : Launch} {rm : Room} {D : va_G} {tys : List (ClassId × FieldType)} {cc : ByteArray} {c0 : Cond} {pc : Nat} {pl : List (Option Value)} {rest : List Value} {S : Type} {w : S → va_W} {σ : S} {post : Int32 → S → Prop} {a0 : Int32} {b : Nat} {fs : List Value} (C : fx_C X l rm D cl_s tys cc (c0 :: tb_l) R_X) (hM : fx_MI l D cl_s tys w y_X_isRecord (k_X_isRecord :: tb_l) rm_X_isRecord (.ref b :: [.int a0]) σ post) (he : (w σ)[0]? = some (b, .inr (0, fs))) (hR : rm_X_isRecord.frames + 1 ≤ rm.frames ∧ 8 + (2 + 11) + rm_X_isRecord.locals ≤ rm.locals) (hrest : (rest.map fun v => v.category).sum ≤ 8) (hd : decode cc pc = .ok (.invokevirtual 44, 3)) (kk : ∀ (r : Int32) (u : S), post r u → fx_J X (w u) (pc + 3) pl (.int r :: rest)) : fx_J X (w σ) pc pl (.int a0 :: .ref b :: rest) := jr_callVi (As := [.int a0]) (rest := rest) (ci := 0) C hM (gd_V ci_X_isRecord ml_X_X_isRecord im_X_isRecord se_X_isRecord ii_X) (n := 1) (by decide +kernel) rfl he rfl ⟨rfl, rfl⟩ hR hrest rfl hd kk
theorem qX_X_isFacet {X : fx_M} {l : Launch} {rm : Room} {D : va_G} {tys : List (ClassId × FieldType)} {cc : ByteArray} {c0 : Cond} {pc : Nat} {pl : List (Option Value)} {rest : List Value} {S : Type} {w : S → va_W} {σ : S} {post : Int32 → S → Prop} {a0 : Int32} (C : fx_C X l rm D cl_s tys cc (c0 :: tb_l) R_X) (hM : fx_MI l D cl_s tys w y_X_isFacet (k_X_isFacet :: tb_l) rm_X_isFacet [.int a0] σ post) (hR : rm_X_isFacet.frames + 1 ≤ rm.frames ∧ 8 + (1 + 11) + rm_X_isFacet.locals ≤ rm.locals) (hrest : (rest.map fun v => v.category).sum ≤ 8) (hd : decode cc pc = .ok (.invokestatic 48, 3)) (kk : ∀ (r : Int32) (u : S), post r u → fx_J X (w u) (pc + 3) pl (.int r :: rest)) : fx_J X (w σ) pc pl (.int a0 :: rest) := jr_callSi (As := [.int a0]) (rest := rest) C hM (gd_S ci_X_isFacet ml_X_X_isFacet st_X_isFacet ii_X) (n := 1) (by decide +kernel) rfl ⟨rfl, rfl⟩ hR hrest rfl hd kk
theorem qX_X_isValue {X : fx_M} {l : Launch} {rm : Room} {D : va_G} {tys : List (ClassId × FieldType)} {cc : ByteArray} {c0 : Cond} {pc : Nat} {pl : List (Option Value)} {rest : List Value} {S : Type} {w : S → va_W} {σ : S} {post : Int32 → S → Prop} {a0 : Int32} (C : fx_C X l rm D cl_s tys cc (c0 :: tb_l) R_X) (hM : fx_MI l D cl_s tys w y_X_isValue (k_X_isValue :: tb_l) rm_X_isValue [.int a0] σ post) (hR : rm_X_isValue.frames + 1 ≤ rm.frames ∧ 8 + (1 + 11) + rm_X_isValue.locals ≤ rm.locals) (hrest : (rest.map fun v => v.category).sum ≤ 8) (hd : decode cc pc = .ok (.invokestatic 51, 3)) (kk : ∀ (r : Int32) (u : S), post r u → fx_J X (w u) (pc + 3) pl (.int r :: rest)) : fx_J X (w σ) pc pl (.int a0 :: rest) := jr_callSi (As := [.int a0]) (rest := rest) C hM (gd_S ci_X_isValue ml_X_X_isValue st_X_isValue ii_X) (n := 1) (by decide +kernel) rfl ⟨rfl, rfl⟩ hR hrest rfl hd kk
theorem qX_X_holds {X : fx_M} {l : Launch} {rm : Room} {D : va_G} {tys : List (ClassId × FieldType)} {cc : ByteArray} {c0 : Cond} {pc : Nat} {pl : List (Option Value)} {rest : List Value} {S : Type} {w : S → va_W} {σ : S} {post : Int32 → S → Prop} {a0 : Int32} {a1 : Int32} {a2 : Int32} {b : Nat} {fs : List Value} (C : fx_C X l rm D cl_s tys cc (c0 :: tb_l) R_X) (hM : fx_MI l D cl_s tys w y_X_holds (k_X_holds :: tb_l) rm_X_holds (.ref b :: [.int a0, .int a1, .int a2]) σ post) (he : (w σ)[0]? = some (b, .inr (0, fs))) (hR : rm_X_holds.frames + 1 ≤ rm.frames ∧ 8 + (4 + 11) + rm_X_holds.locals ≤ rm.locals) (hrest : (rest.map fun v => v.category).sum ≤ 8) (hd : decode cc pc = .ok (.invokevirtual 54, 3)) (kk : ∀ (r : Int32) (u : S), post r u → fx_J X (w u) (pc + 3) pl (.int r :: rest)) : fx_J X (w σ) pc pl (.int a2 :: .int a1 :: .int a0 :: .ref b :: rest) := jr_callVi (As := [.int a0, .int a1, .int a2]) (rest := rest) (ci := 0) C hM (gd_V ci_X_holds ml_X_X_holds im_X_holds se_X_holds ii_X) (n := 3) (by decide +kernel) rfl he rfl ⟨rfl, rfl⟩ hR hrest rfl hd kk
theorem qX_X_cell {X : fx_M} {l : Launch} {rm : Room} {D : va_G} {tys : List (ClassId × FieldType)} {cc : ByteArray} {c0 : Cond} {pc : Nat} {pl : List (Option Value)} {rest : List Value} {S : Type} {w : S → va_W} {σ : S} {post : Int32 → S → Prop} {a0 : Int32} {a1 : Int32} (C : fx_C X l rm D cl_s tys cc (c0 :: tb_l) R_X) (hM : fx_MI l D cl_s tys w y_X_cell (k_X_cell :: tb_l) rm_X_cell [.int a0, .int a1] σ post) (hR : rm_X_cell.frames + 1 ≤ rm.frames ∧ 8 + (2 + 11) + rm_X_cell.locals ≤ rm.locals) (hrest : (rest.map fun v => v.category).sum ≤ 8) (hd : decode cc pc = .ok (.invokestatic 58, 3)) (kk : ∀ (r : Int32) (u : S), post r u → fx_J X (w u) (pc + 3) pl (.int r :: rest)) : fx_J X (w σ) pc pl (.int a1 :: .int a0 :: rest) := jr_callSi (As := [.int a0, .int a1]) (rest := rest) C hM (gd_S ci_X_cell ml_X_X_cell st_X_cell ii_X) (n := 2) (by decide +kernel) rfl ⟨rfl, rfl⟩ hR hrest rfl hd kk
theorem qX_X_bit {X : fx_M} {l : Launch} {rm : Room} {D : va_G} {tys : List (ClassId × FieldType)} {cc : ByteArray} {c0 : Cond} {pc : Nat} {pl : List (Option Value)} {rest : List Value} {S : Type} {w : S → va_W} {σ : S} {post : Int64 → S → Prop} {a0 : Int32} (C : fx_C X l rm D cl_s tys cc (c0 :: tb_l) R_X) (hM : fx_ML l D cl_s tys w y_X_bit (k_X_bit :: tb_l) rm_X_bit [.int a0] σ post) (hR : rm_X_bit.frames + 1 ≤ rm.frames ∧ 8 + (1 + 11) + rm_X_bit.locals ≤ rm.locals) (hrest : (rest.map fun v => v.category).sum ≤ 8) (hd : decode cc pc = .ok (.invokestatic 62, 3)) (kk : ∀ (r : Int64) (u : S), post r u → fx_J X (w u) (pc + 3) pl (.long r :: rest)) : fx_J X (w σ) pc pl (.int a0 :: rest) := jr_callSl (As := [.int a0]) (rest := rest) C hM (gd_S ci_X_bit ml_X_X_bit st_X_bit ii_X) (n := 1) (by decide +kernel) rfl ⟨rfl, rfl⟩ hR hrest rfl hd kk
theorem qX_X_raise {X : fx_M} {l : Launch} {rm : Room} {D : va_G} {tys : List (ClassId × FieldType)} {cc : ByteArray} {c0 : Cond} {pc : Nat} {pl : List (Option Value)} {rest : List Value} {S : Type} {w : S → va_W} {σ : S} {post : S → Prop} {a0 : Int32} {a1 : Int32} {a2 : Int64} {b : Nat} {fs : List Value} (C : fx_C X l rm D cl_s tys cc (c0 :: tb_l) R_X) (hM : fx_MV l D cl_s tys w y_X_raise (k_X_raise :: tb_l) rm_X_raise (.ref b :: [.int a0, .int a1, .long a2]) σ post) (he : (w σ)[0]? = some (b, .inr (0, fs))) (hR : rm_X_raise.frames + 1 ≤ rm.frames ∧ 8 + (7 + 11) + rm_X_raise.locals ≤ rm.locals) (hrest : (rest.map fun v => v.category).sum ≤ 8) (hd : decode cc pc = .ok (.invokevirtual 66, 3)) (kk : ∀ u : S, post u → fx_J X (w u) (pc + 3) pl (rest)) : fx_J X (w σ) pc pl (.long a2 :: .int a1 :: .int a0 :: .ref b :: rest) := jr_callVv (As := [.int a0, .int a1, .long a2]) (rest := rest) (ci := 0) C hM (gd_V ci_X_raise ml_X_X_raise im_X_raise se_X_raise ii_X) (n := 3) (by decide +kernel) rfl he rfl ⟨rfl, rfl⟩ hR hrest rfl hd kk
theorem qX_X_heldOf {X : fx_M} {l : Launch} {rm : Room} {D : va_G} {tys : List (ClassId × FieldType)} {cc : ByteArray} {c0 : Cond} {pc : Nat} {pl : List (Option Value)} {rest : List Value} {S : Type} {w : S → va_W} {σ : S} {post : Int32 → S → Prop} {a0 : Int32} {a1 : Int32} {b : Nat} {fs : List Value} (C : fx_C X l rm D cl_s tys cc (c0 :: tb_l) R_X) (hM : fx_MI l D cl_s tys w y_X_heldOf (k_X_heldOf :: tb_l) rm_X_heldOf (.ref b :: [.int a0, .int a1]) σ post) (he : (w σ)[0]? = some (b, .inr (0, fs))) (hR : rm_X_heldOf.frames + 1 ≤ rm.frames ∧ 8 + (5 + 11) + rm_X_heldOf.locals ≤ rm.locals) (hrest : (rest.map fun v => v.category).sum ≤ 8) (hd : decode cc pc = .ok (.invokevirtual 70, 3)) (kk : ∀ (r : Int32) (u : S), post r u → fx_J X (w u) (pc + 3) pl (.int r :: rest)) : fx_J X (w σ) pc pl (.int a1 :: .int a0 :: .ref b :: rest) := jr_callVi (As := [.int a0, .int a1]) (rest := rest) (ci := 0) C hM (gd_V ci_X_heldOf ml_X_X_heldOf im_X_heldOf se_X_heldOf ii_X) (n := 2) (by decide +kernel) rfl he rfl ⟨rfl, rfl⟩ hR hrest rfl hd kk
theorem qX_X_raiseAll {X : fx_M} {l : Launch} {rm : Room} {D : va_G} {tys : List (ClassId × FieldType)} {cc : ByteArray} {c0 : Cond} {pc : Nat} {pl : List (Option Value)} {rest : List Value} {S : Type} {w : S → va_W} {σ : S} {post : S → Prop} {a0 : Int32} {b : Nat} {fs : List Value} (C : fx_C X l rm D cl_s tys cc (c0 :: tb_l) R_X) (hM : fx_MV l D cl_s tys w y_X_raiseAll (k_X_raiseAll :: tb_l) rm_X_raiseAll (.ref b :: [.int a0]) σ post) (he : (w σ)[0]? = some (b, .inr (0, fs))) (hR : rm_X_raiseAll.frames + 1 ≤ rm.frames ∧ 8 + (5 + 11) + rm_X_raiseAll.locals ≤ rm.locals) (hrest : (rest.map fun v => v.category).sum ≤ 8) (hd : decode cc pc = .ok (.invokevirtual 75, 3)) (kk : ∀ u : S, post u → fx_J X (w u) (pc + 3) pl (rest)) : fx_J X (w σ) pc pl (.int a0 :: .ref b :: rest) := jr_callVv (As := [.int a0]) (rest := rest) (ci := 0) C hM (gd_V ci_X_raiseAll ml_X_X_raiseAll im_X_raiseAll se_X_raiseAll ii_X) (n := 1) (by decide +kernel) rfl he rfl ⟨rfl, rfl⟩ hR hrest rfl hd kk
theorem qX_X_isAtOrBelow {X : fx_M} {l : Launch} {rm : Room} {D : va_G} {tys : List (ClassId × FieldType)} {cc : ByteArray} {c0 : Cond} {pc : Nat} {pl : List (Option Value)} {rest : List Value} {S : Type} {w : S → va_W} {σ : S} {post : Int32 → S → Prop} {a0 : Int32} {a1 : Int32} {a2 : Int32} {b : Nat} {fs : List Value} (C : fx_C X l rm D cl_s tys cc (c0 :: tb_l) R_X) (hM : fx_MI l D cl_s tys w y_X_isAtOrBelow (k_X_isAtOrBelow :: tb_l) rm_X_isAtOrBelow (.ref b :: [.int a0, .int a1, .int a2]) σ post) (he : (w σ)[0]? = some (b, .inr (0, fs))) (hR : rm_X_isAtOrBelow.frames + 1 ≤ rm.frames ∧ 8 + (6 + 11) + rm_X_isAtOrBelow.locals ≤ rm.locals) (hrest : (rest.map fun v => v.category).sum ≤ 8) (hd : decode cc pc = .ok (.invokevirtual 79, 3)) (kk : ∀ (r : Int32) (u : S), post r u → fx_J X (w u) (pc + 3) pl (.int r :: rest)) : fx_J X (w σ) pc pl (.int a2 :: .int a1 :: .int a0 :: .ref b :: rest) := jr_callVi (As := [.int a0, .int a1, .int a2]) (rest := rest) (ci := 0) C hM (gd_V ci_X_isAtOrBelow ml_X_X_isAtOrBelow im_X_isAtOrBelow se_X_isAtOrBelow ii_X) (n := 3) (by decide +kernel) rfl he rfl ⟨rfl, rfl⟩ hR hrest rfl hd kk
theorem qX_JL_bitCount {X : fx_M} {l : Launch} {rm : Room} {D : va_G} {tys : List (ClassId × FieldType)} {cc : ByteArray} {c0 : Cond} {pc : Nat} {pl : List (Option Value)} {rest : List Value} {S : Type} {w : S → va_W} {σ : S} {post : Int32 → S → Prop} {a0 : Int64} (C : fx_C X l rm D cl_s tys cc (c0 :: tb_l) R_X) (hM : fx_MI l D cl_s tys w y_JL_bitCount (k_JL_bitCount :: tb_l) rm_JL_bitCount [.long a0] σ post) (hR : rm_JL_bitCount.frames + 1 ≤ rm.frames ∧ 8 + (2 + 11) + rm_JL_bitCount.locals ≤ rm.locals) (hrest : (rest.map fun v => v.category).sum ≤ 8) (hd : decode cc pc = .ok (.invokestatic 82, 3)) (kk : ∀ (r : Int32) (u : S), post r u → fx_J X (w u) (pc + 3) pl (.int r :: rest)) : fx_J X (w σ) pc pl (.long a0 :: rest) := jr_callSi (As := [.long a0]) (rest := rest) C hM (gd_S ci_JL_bitCount ml_X_JL_bitCount st_JL_bitCount ii_JL) (n := 1) (by decide +kernel) rfl ⟨rfl, rfl⟩ hR hrest rfl hd kk
theorem qX_X_hitsLeft {X : fx_M} {l : Launch} {rm : Room} {D : va_G} {tys : List (ClassId × FieldType)} {cc : ByteArray} {c0 : Cond} {pc : Nat} {pl : List (Option Value)} {rest : List Value} {S : Type} {w : S → va_W} {σ : S} {post : Int64 → S → Prop}  {b : Nat} {fs : List Value} (C : fx_C X l rm D cl_s tys cc (c0 :: tb_l) R_X) (hM : fx_ML l D cl_s tys w y_X_hitsLeft (k_X_hitsLeft :: tb_l) rm_X_hitsLeft (.ref b :: []) σ post) (he : (w σ)[0]? = some (b, .inr (0, fs))) (hR : rm_X_hitsLeft.frames + 1 ≤ rm.frames ∧ 8 + (4 + 11) + rm_X_hitsLeft.locals ≤ rm.locals) (hrest : (rest.map fun v => v.category).sum ≤ 8) (hd : decode cc pc = .ok (.invokevirtual 88, 3)) (kk : ∀ (r : Int64) (u : S), post r u → fx_J X (w u) (pc + 3) pl (.long r :: rest)) : fx_J X (w σ) pc pl (.ref b :: rest) := jr_callVl (As := []) (rest := rest) (ci := 0) C hM (gd_V ci_X_hitsLeft ml_X_X_hitsLeft im_X_hitsLeft se_X_hitsLeft ii_X) (n := 0) (by decide +kernel) rfl he rfl ⟨rfl, rfl⟩ hR hrest rfl hd kk
theorem qX_X_admitted {X : fx_M} {l : Launch} {rm : Room} {D : va_G} {tys : List (ClassId × FieldType)} {cc : ByteArray} {c0 : Cond} {pc : Nat} {pl : List (Option Value)} {rest : List Value} {S : Type} {w : S → va_W} {σ : S} {post : Int64 → S → Prop} {a0 : Int32} {b : Nat} {fs : List Value} (C : fx_C X l rm D cl_s tys cc (c0 :: tb_l) R_X) (hM : fx_ML l D cl_s tys w y_X_admitted (k_X_admitted :: tb_l) rm_X_admitted (.ref b :: [.int a0]) σ post) (he : (w σ)[0]? = some (b, .inr (0, fs))) (hR : rm_X_admitted.frames + 1 ≤ rm.frames ∧ 8 + (6 + 11) + rm_X_admitted.locals ≤ rm.locals) (hrest : (rest.map fun v => v.category).sum ≤ 8) (hd : decode cc pc = .ok (.invokevirtual 125, 3)) (kk : ∀ (r : Int64) (u : S), post r u → fx_J X (w u) (pc + 3) pl (.long r :: rest)) : fx_J X (w σ) pc pl (.int a0 :: .ref b :: rest) := jr_callVl (As := [.int a0]) (rest := rest) (ci := 0) C hM (gd_V ci_X_admitted ml_X_X_admitted im_X_admitted se_X_admitted ii_X) (n := 1) (by decide +kernel) rfl he rfl ⟨rfl, rfl⟩ hR hrest rfl hd kk
theorem qX_X_countValues {X : fx_M} {l : Launch} {rm : Room} {D : va_G} {tys : List (ClassId × FieldType)} {cc : ByteArray} {c0 : Cond} {pc : Nat} {pl : List (Option Value)} {rest : List Value} {S : Type} {w : S → va_W} {σ : S} {post : S → Prop} {a0 : Int32} {b : Nat} {fs : List Value} (C : fx_C X l rm D cl_s tys cc (c0 :: tb_l) R_X) (hM : fx_MV l D cl_s tys w y_X_countValues (k_X_countValues :: tb_l) rm_X_countValues (.ref b :: [.int a0]) σ post) (he : (w σ)[0]? = some (b, .inr (0, fs))) (hR : rm_X_countValues.frames + 1 ≤ rm.frames ∧ 8 + (5 + 11) + rm_X_countValues.locals ≤ rm.locals) (hrest : (rest.map fun v => v.category).sum ≤ 8) (hd : decode cc pc = .ok (.invokevirtual 92, 3)) (kk : ∀ u : S, post u → fx_J X (w u) (pc + 3) pl (rest)) : fx_J X (w σ) pc pl (.int a0 :: .ref b :: rest) := jr_callVv (As := [.int a0]) (rest := rest) (ci := 0) C hM (gd_V ci_X_countValues ml_X_X_countValues im_X_countValues se_X_countValues ii_X) (n := 1) (by decide +kernel) rfl he rfl ⟨rfl, rfl⟩ hR hrest rfl hd kk
theorem qX_X_ranked {X : fx_M} {l : Launch} {rm : Room} {D : va_G} {tys : List (ClassId × FieldType)} {cc : ByteArray} {c0 : Cond} {pc : Nat} {pl : List (Option Value)} {rest : List Value} {S : Type} {w : S → va_W} {σ : S} {post : Int32 → S → Prop} {a0 : Int32} {b : Nat} {fs : List Value} (C : fx_C X l rm D cl_s tys cc (c0 :: tb_l) R_X) (hM : fx_MI l D cl_s tys w y_X_ranked (k_X_ranked :: tb_l) rm_X_ranked (.ref b :: [.int a0]) σ post) (he : (w σ)[0]? = some (b, .inr (0, fs))) (hR : rm_X_ranked.frames + 1 ≤ rm.frames ∧ 8 + (5 + 11) + rm_X_ranked.locals ≤ rm.locals) (hrest : (rest.map fun v => v.category).sum ≤ 8) (hd : decode cc pc = .ok (.invokevirtual 95, 3)) (kk : ∀ (r : Int32) (u : S), post r u → fx_J X (w u) (pc + 3) pl (.int r :: rest)) : fx_J X (w σ) pc pl (.int a0 :: .ref b :: rest) := jr_callVi (As := [.int a0]) (rest := rest) (ci := 0) C hM (gd_V ci_X_ranked ml_X_X_ranked im_X_ranked se_X_ranked ii_X) (n := 1) (by decide +kernel) rfl he rfl ⟨rfl, rfl⟩ hR hrest rfl hd kk
theorem qX_X_dropOthersThanBelow {X : fx_M} {l : Launch} {rm : Room} {D : va_G} {tys : List (ClassId × FieldType)} {cc : ByteArray} {c0 : Cond} {pc : Nat} {pl : List (Option Value)} {rest : List Value} {S : Type} {w : S → va_W} {σ : S} {post : S → Prop} {a0 : Int32} {a1 : Int32} {b : Nat} {fs : List Value} (C : fx_C X l rm D cl_s tys cc (c0 :: tb_l) R_X) (hM : fx_MV l D cl_s tys w y_X_dropOthersThanBelow (k_X_dropOthersThanBelow :: tb_l) rm_X_dropOthersThanBelow (.ref b :: [.int a0, .int a1]) σ post) (he : (w σ)[0]? = some (b, .inr (0, fs))) (hR : rm_X_dropOthersThanBelow.frames + 1 ≤ rm.frames ∧ 8 + (4 + 11) + rm_X_dropOthersThanBelow.locals ≤ rm.locals) (hrest : (rest.map fun v => v.category).sum ≤ 8) (hd : decode cc pc = .ok (.invokevirtual 99, 3)) (kk : ∀ u : S, post u → fx_J X (w u) (pc + 3) pl (rest)) : fx_J X (w σ) pc pl (.int a1 :: .int a0 :: .ref b :: rest) := jr_callVv (As := [.int a0, .int a1]) (rest := rest) (ci := 0) C hM (gd_V ci_X_dropOthersThanBelow ml_X_X_dropOthersThanBelow im_X_dropOthersThanBelow se_X_dropOthersThanBelow ii_X) (n := 2) (by decide +kernel) rfl he rfl ⟨rfl, rfl⟩ hR hrest rfl hd kk
theorem qX_X_holdersBetween {X : fx_M} {l : Launch} {rm : Room} {D : va_G} {tys : List (ClassId × FieldType)} {cc : ByteArray} {c0 : Cond} {pc : Nat} {pl : List (Option Value)} {rest : List Value} {S : Type} {w : S → va_W} {σ : S} {post : Int64 → S → Prop} {a0 : Int32} {a1 : Int32} {a2 : Int32} {b : Nat} {fs : List Value} (C : fx_C X l rm D cl_s tys cc (c0 :: tb_l) R_X) (hM : fx_ML l D cl_s tys w y_X_holdersBetween (k_X_holdersBetween :: tb_l) rm_X_holdersBetween (.ref b :: [.int a0, .int a1, .int a2]) σ post) (he : (w σ)[0]? = some (b, .inr (0, fs))) (hR : rm_X_holdersBetween.frames + 1 ≤ rm.frames ∧ 8 + (8 + 11) + rm_X_holdersBetween.locals ≤ rm.locals) (hrest : (rest.map fun v => v.category).sum ≤ 8) (hd : decode cc pc = .ok (.invokevirtual 103, 3)) (kk : ∀ (r : Int64) (u : S), post r u → fx_J X (w u) (pc + 3) pl (.long r :: rest)) : fx_J X (w σ) pc pl (.int a2 :: .int a1 :: .int a0 :: .ref b :: rest) := jr_callVl (As := [.int a0, .int a1, .int a2]) (rest := rest) (ci := 0) C hM (gd_V ci_X_holdersBetween ml_X_X_holdersBetween im_X_holdersBetween se_X_holdersBetween ii_X) (n := 3) (by decide +kernel) rfl he rfl ⟨rfl, rfl⟩ hR hrest rfl hd kk
theorem qX_JM_min {X : fx_M} {l : Launch} {rm : Room} {D : va_G} {tys : List (ClassId × FieldType)} {cc : ByteArray} {c0 : Cond} {pc : Nat} {pl : List (Option Value)} {rest : List Value} {S : Type} {w : S → va_W} {σ : S} {post : Int32 → S → Prop} {a0 : Int32} {a1 : Int32} (C : fx_C X l rm D cl_s tys cc (c0 :: tb_l) R_X) (hM : fx_MI l D cl_s tys w y_JM_min (k_JM_min :: tb_l) rm_JM_min [.int a0, .int a1] σ post) (hR : rm_JM_min.frames + 1 ≤ rm.frames ∧ 8 + (2 + 11) + rm_JM_min.locals ≤ rm.locals) (hrest : (rest.map fun v => v.category).sum ≤ 8) (hd : decode cc pc = .ok (.invokestatic 117, 3)) (kk : ∀ (r : Int32) (u : S), post r u → fx_J X (w u) (pc + 3) pl (.int r :: rest)) : fx_J X (w σ) pc pl (.int a1 :: .int a0 :: rest) := jr_callSi (As := [.int a0, .int a1]) (rest := rest) C hM (gd_S ci_JM_min ml_X_JM_min st_JM_min ii_JM) (n := 2) (by decide +kernel) rfl ⟨rfl, rfl⟩ hR hrest rfl hd kk
theorem qX_JM_max {X : fx_M} {l : Launch} {rm : Room} {D : va_G} {tys : List (ClassId × FieldType)} {cc : ByteArray} {c0 : Cond} {pc : Nat} {pl : List (Option Value)} {rest : List Value} {S : Type} {w : S → va_W} {σ : S} {post : Int32 → S → Prop} {a0 : Int32} {a1 : Int32} (C : fx_C X l rm D cl_s tys cc (c0 :: tb_l) R_X) (hM : fx_MI l D cl_s tys w y_JM_max (k_JM_max :: tb_l) rm_JM_max [.int a0, .int a1] σ post) (hR : rm_JM_max.frames + 1 ≤ rm.frames ∧ 8 + (2 + 11) + rm_JM_max.locals ≤ rm.locals) (hrest : (rest.map fun v => v.category).sum ≤ 8) (hd : decode cc pc = .ok (.invokestatic 122, 3)) (kk : ∀ (r : Int32) (u : S), post r u → fx_J X (w u) (pc + 3) pl (.int r :: rest)) : fx_J X (w σ) pc pl (.int a1 :: .int a0 :: rest) := jr_callSi (As := [.int a0, .int a1]) (rest := rest) C hM (gd_S ci_JM_max ml_X_JM_max st_JM_max ii_JM) (n := 2) (by decide +kernel) rfl ⟨rfl, rfl⟩ hR hrest rfl hd kk
theorem qX_X_commonDivisor {X : fx_M} {l : Launch} {rm : Room} {D : va_G} {tys : List (ClassId × FieldType)} {cc : ByteArray} {c0 : Cond} {pc : Nat} {pl : List (Option Value)} {rest : List Value} {S : Type} {w : S → va_W} {σ : S} {post : Int32 → S → Prop} {a0 : Int32} {a1 : Int32} (C : fx_C X l rm D cl_s tys cc (c0 :: tb_l) R_X) (hM : fx_MI l D cl_s tys w y_X_commonDivisor (k_X_commonDivisor :: tb_l) rm_X_commonDivisor [.int a0, .int a1] σ post) (hR : rm_X_commonDivisor.frames + 1 ≤ rm.frames ∧ 8 + (3 + 11) + rm_X_commonDivisor.locals ≤ rm.locals) (hrest : (rest.map fun v => v.category).sum ≤ 8) (hd : decode cc pc = .ok (.invokestatic 114, 3)) (kk : ∀ (r : Int32) (u : S), post r u → fx_J X (w u) (pc + 3) pl (.int r :: rest)) : fx_J X (w σ) pc pl (.int a1 :: .int a0 :: rest) := jr_callSi (As := [.int a0, .int a1]) (rest := rest) C hM (gd_S ci_X_commonDivisor ml_X_X_commonDivisor st_X_commonDivisor ii_X) (n := 2) (by decide +kernel) rfl ⟨rfl, rfl⟩ hR hrest rfl hd kk
theorem qM_M_isRecord {X : fx_M} {l : Launch} {rm : Room} {D : va_G} {tys : List (ClassId × FieldType)} {cc : ByteArray} {c0 : Cond} {pc : Nat} {pl : List (Option Value)} {rest : List Value} {S : Type} {w : S → va_W} {σ : S} {post : Int32 → S → Prop} {a0 : Int32} {b : Nat} {fs : List Value} (C : fx_C X l rm D cl_s tys cc (c0 :: tb_l) R_M) (hM : fx_MI l D cl_s tys w y_M_isRecord (k_M_isRecord :: tb_l) rm_M_isRecord (.ref b :: [.int a0]) σ post) (he : (w σ)[0]? = some (b, .inr (1, fs))) (hR : rm_M_isRecord.frames + 1 ≤ rm.frames ∧ 8 + (2 + 11) + rm_M_isRecord.locals ≤ rm.locals) (hrest : (rest.map fun v => v.category).sum ≤ 8) (hd : decode cc pc = .ok (.invokevirtual 52, 3)) (kk : ∀ (r : Int32) (u : S), post r u → fx_J X (w u) (pc + 3) pl (.int r :: rest)) : fx_J X (w σ) pc pl (.int a0 :: .ref b :: rest) := jr_callVi (As := [.int a0]) (rest := rest) (ci := 1) C hM (gd_V ci_M_isRecord ml_M_M_isRecord im_M_isRecord se_M_isRecord ii_M) (n := 1) (by decide +kernel) rfl he rfl ⟨rfl, rfl⟩ hR hrest rfl hd kk
theorem qM_M_isValue {X : fx_M} {l : Launch} {rm : Room} {D : va_G} {tys : List (ClassId × FieldType)} {cc : ByteArray} {c0 : Cond} {pc : Nat} {pl : List (Option Value)} {rest : List Value} {S : Type} {w : S → va_W} {σ : S} {post : Int32 → S → Prop} {a0 : Int32} {a1 : Int32} (C : fx_C X l rm D cl_s tys cc (c0 :: tb_l) R_M) (hM : fx_MI l D cl_s tys w y_M_isValue (k_M_isValue :: tb_l) rm_M_isValue [.int a0, .int a1] σ post) (hR : rm_M_isValue.frames + 1 ≤ rm.frames ∧ 8 + (2 + 11) + rm_M_isValue.locals ≤ rm.locals) (hrest : (rest.map fun v => v.category).sum ≤ 8) (hd : decode cc pc = .ok (.invokestatic 55, 3)) (kk : ∀ (r : Int32) (u : S), post r u → fx_J X (w u) (pc + 3) pl (.int r :: rest)) : fx_J X (w σ) pc pl (.int a1 :: .int a0 :: rest) := jr_callSi (As := [.int a0, .int a1]) (rest := rest) C hM (gd_S ci_M_isValue ml_M_M_isValue st_M_isValue ii_M) (n := 2) (by decide +kernel) rfl ⟨rfl, rfl⟩ hR hrest rfl hd kk
theorem qM_M_find {X : fx_M} {l : Launch} {rm : Room} {D : va_G} {tys : List (ClassId × FieldType)} {cc : ByteArray} {c0 : Cond} {pc : Nat} {pl : List (Option Value)} {rest : List Value} {S : Type} {w : S → va_W} {σ : S} {post : Int32 → S → Prop} {a0 : Int32} {a1 : Int32} {a2 : Int32} {b : Nat} {fs : List Value} (C : fx_C X l rm D cl_s tys cc (c0 :: tb_l) R_M) (hM : fx_MI l D cl_s tys w y_M_find (k_M_find :: tb_l) rm_M_find (.ref b :: [.int a0, .int a1, .int a2]) σ post) (he : (w σ)[0]? = some (b, .inr (1, fs))) (hR : rm_M_find.frames + 1 ≤ rm.frames ∧ 8 + (5 + 11) + rm_M_find.locals ≤ rm.locals) (hrest : (rest.map fun v => v.category).sum ≤ 8) (hd : decode cc pc = .ok (.invokevirtual 59, 3)) (kk : ∀ (r : Int32) (u : S), post r u → fx_J X (w u) (pc + 3) pl (.int r :: rest)) : fx_J X (w σ) pc pl (.int a2 :: .int a1 :: .int a0 :: .ref b :: rest) := jr_callVi (As := [.int a0, .int a1, .int a2]) (rest := rest) (ci := 1) C hM (gd_V ci_M_find ml_M_M_find im_M_find se_M_find ii_M) (n := 3) (by decide +kernel) rfl he rfl ⟨rfl, rfl⟩ hR hrest rfl hd kk
theorem qM_M_isFacet {X : fx_M} {l : Launch} {rm : Room} {D : va_G} {tys : List (ClassId × FieldType)} {cc : ByteArray} {c0 : Cond} {pc : Nat} {pl : List (Option Value)} {rest : List Value} {S : Type} {w : S → va_W} {σ : S} {post : Int32 → S → Prop} {a0 : Int32} (C : fx_C X l rm D cl_s tys cc (c0 :: tb_l) R_M) (hM : fx_MI l D cl_s tys w y_M_isFacet (k_M_isFacet :: tb_l) rm_M_isFacet [.int a0] σ post) (hR : rm_M_isFacet.frames + 1 ≤ rm.frames ∧ 8 + (1 + 11) + rm_M_isFacet.locals ≤ rm.locals) (hrest : (rest.map fun v => v.category).sum ≤ 8) (hd : decode cc pc = .ok (.invokestatic 45, 3)) (kk : ∀ (r : Int32) (u : S), post r u → fx_J X (w u) (pc + 3) pl (.int r :: rest)) : fx_J X (w σ) pc pl (.int a0 :: rest) := jr_callSi (As := [.int a0]) (rest := rest) C hM (gd_S ci_M_isFacet ml_M_M_isFacet st_M_isFacet ii_M) (n := 1) (by decide +kernel) rfl ⟨rfl, rfl⟩ hR hrest rfl hd kk
theorem qM_M_lies {X : fx_M} {l : Launch} {rm : Room} {D : va_G} {tys : List (ClassId × FieldType)} {cc : ByteArray} {c0 : Cond} {pc : Nat} {pl : List (Option Value)} {rest : List Value} {S : Type} {w : S → va_W} {σ : S} {post : Int32 → S → Prop} {a0 : Int32} {a1 : Int32} {a2 : Int32} {b : Nat} {fs : List Value} (C : fx_C X l rm D cl_s tys cc (c0 :: tb_l) R_M) (hM : fx_MI l D cl_s tys w y_M_lies (k_M_lies :: tb_l) rm_M_lies (.ref b :: [.int a0, .int a1, .int a2]) σ post) (he : (w σ)[0]? = some (b, .inr (1, fs))) (hR : rm_M_lies.frames + 1 ≤ rm.frames ∧ 8 + (5 + 11) + rm_M_lies.locals ≤ rm.locals) (hrest : (rest.map fun v => v.category).sum ≤ 8) (hd : decode cc pc = .ok (.invokevirtual 63, 3)) (kk : ∀ (r : Int32) (u : S), post r u → fx_J X (w u) (pc + 3) pl (.int r :: rest)) : fx_J X (w σ) pc pl (.int a2 :: .int a1 :: .int a0 :: .ref b :: rest) := jr_callVi (As := [.int a0, .int a1, .int a2]) (rest := rest) (ci := 1) C hM (gd_V ci_M_lies ml_M_M_lies im_M_lies se_M_lies ii_M) (n := 3) (by decide +kernel) rfl he rfl ⟨rfl, rfl⟩ hR hrest rfl hd kk
theorem qM_M_sort {X : fx_M} {l : Launch} {rm : Room} {D : va_G} {tys : List (ClassId × FieldType)} {cc : ByteArray} {c0 : Cond} {pc : Nat} {pl : List (Option Value)} {rest : List Value} {S : Type} {w : S → va_W} {σ : S} {post : S → Prop}  {b : Nat} {fs : List Value} (C : fx_C X l rm D cl_s tys cc (c0 :: tb_l) R_M) (hM : fx_MV l D cl_s tys w y_M_sort (k_M_sort :: tb_l) rm_M_sort (.ref b :: []) σ post) (he : (w σ)[0]? = some (b, .inr (1, fs))) (hR : rm_M_sort.frames + 1 ≤ rm.frames ∧ 8 + (4 + 11) + rm_M_sort.locals ≤ rm.locals) (hrest : (rest.map fun v => v.category).sum ≤ 8) (hd : decode cc pc = .ok (.invokevirtual 70, 3)) (kk : ∀ u : S, post u → fx_J X (w u) (pc + 3) pl (rest)) : fx_J X (w σ) pc pl (.ref b :: rest) := jr_callVv (As := []) (rest := rest) (ci := 1) C hM (gd_V ci_M_sort ml_M_M_sort im_M_sort se_M_sort ii_M) (n := 0) (by decide +kernel) rfl he rfl ⟨rfl, rfl⟩ hR hrest rfl hd kk
theorem qM_M_reckon {X : fx_M} {l : Launch} {rm : Room} {D : va_G} {tys : List (ClassId × FieldType)} {cc : ByteArray} {c0 : Cond} {pc : Nat} {pl : List (Option Value)} {rest : List Value} {S : Type} {w : S → va_W} {σ : S} {post : S → Prop} {a0 : Int32} {b : Nat} {fs : List Value} (C : fx_C X l rm D cl_s tys cc (c0 :: tb_l) R_M) (hM : fx_MV l D cl_s tys w y_M_reckon (k_M_reckon :: tb_l) rm_M_reckon (.ref b :: [.int a0]) σ post) (he : (w σ)[0]? = some (b, .inr (1, fs))) (hR : rm_M_reckon.frames + 1 ≤ rm.frames ∧ 8 + (5 + 11) + rm_M_reckon.locals ≤ rm.locals) (hrest : (rest.map fun v => v.category).sum ≤ 8) (hd : decode cc pc = .ok (.invokevirtual 73, 3)) (kk : ∀ u : S, post u → fx_J X (w u) (pc + 3) pl (rest)) : fx_J X (w σ) pc pl (.int a0 :: .ref b :: rest) := jr_callVv (As := [.int a0]) (rest := rest) (ci := 1) C hM (gd_V ci_M_reckon ml_M_M_reckon im_M_reckon se_M_reckon ii_M) (n := 1) (by decide +kernel) rfl he rfl ⟨rfl, rfl⟩ hR hrest rfl hd kk
theorem qM_M_ranked {X : fx_M} {l : Launch} {rm : Room} {D : va_G} {tys : List (ClassId × FieldType)} {cc : ByteArray} {c0 : Cond} {pc : Nat} {pl : List (Option Value)} {rest : List Value} {S : Type} {w : S → va_W} {σ : S} {post : Int32 → S → Prop} {a0 : Int32} {a1 : Int32} {a2 : Int32} {b : Nat} {fs : List Value} (C : fx_C X l rm D cl_s tys cc (c0 :: tb_l) R_M) (hM : fx_MI l D cl_s tys w y_M_ranked (k_M_ranked :: tb_l) rm_M_ranked (.ref b :: [.int a0, .int a1, .int a2]) σ post) (he : (w σ)[0]? = some (b, .inr (1, fs))) (hR : rm_M_ranked.frames + 1 ≤ rm.frames ∧ 8 + (7 + 11) + rm_M_ranked.locals ≤ rm.locals) (hrest : (rest.map fun v => v.category).sum ≤ 8) (hd : decode cc pc = .ok (.invokevirtual 77, 3)) (kk : ∀ (r : Int32) (u : S), post r u → fx_J X (w u) (pc + 3) pl (.int r :: rest)) : fx_J X (w σ) pc pl (.int a2 :: .int a1 :: .int a0 :: .ref b :: rest) := jr_callVi (As := [.int a0, .int a1, .int a2]) (rest := rest) (ci := 1) C hM (gd_V ci_M_ranked ml_M_M_ranked im_M_ranked se_M_ranked ii_M) (n := 3) (by decide +kernel) rfl he rfl ⟨rfl, rfl⟩ hR hrest rfl hd kk
end
section
theorem fx_p {α S : Type} {σ : S} {P : α → Prop} {G : α → S → Prop} (kk : ∀ r, P r → G r σ) : ∀ r u, (u = σ ∧ P r) → G r u := fun r u h => by rw [h.1]; exact kk r h.2
theorem rg_neg {x : Int32} {N : Nat} (hN : N < 2 ^ 31) (h : x < 0) : ¬ ∃ j, j < N ∧ x = nI j := by
  rintro ⟨j, hj, rfl⟩
  exact nI_pos (by omega) h
theorem rg_big {x : Int32} {N : Nat} (hN : N < 2 ^ 31) (h : nI N ≤ x) : ¬ ∃ j, j < N ∧ x = nI j := by
  rintro ⟨j, hj, rfl⟩
  exact nI_ge hj hN h
theorem rg_in {x : Int32} {N : Nat} (hN : N < 2 ^ 31) (h0 : ¬ x < 0) (h1 : ¬ nI N ≤ x) : ∃ j, j < N ∧ x = nI j := by
  rcases pk_ix x hN with h | h | h
  · exact absurd h h0
  · exact absurd h h1
  · exact h
/-- a test of a range: the answer 1 or 0 -/
def rg_q (P : Prop) (r : Int32) : Prop := (r = nI 1 ∧ P) ∨ (r = nI 0 ∧ ¬ P)
section LX
variable (l : Launch) (D : va_G) (tys : List (ClassId × FieldType)) {S : Type} (w : S → va_W) (σ : S)
theorem cX_isFacet (x : Int32) : fx_MI l D cl_s tys w y_X_isFacet (k_X_isFacet :: tb_l) rm_X_isFacet [.int x] σ (fun r u => u = σ ∧ rg_q (∃ j, j < 6 ∧ x = nI j) r) := by
  refine fx_enterI (by decide +kernel) [some (.int x)] rfl (Nat.le_of_ble_eq_true rfl) (Nat.le_of_ble_eq_true rfl) (fun X C hR => ?_)
  refine jr_iload_0 C d_X_isFacet_0 ?_
  refine jr_if_lt (tgt := 14) C d_X_isFacet_1 (by decide) (fun h => ?_) (fun h => ?_)
  · refine jr_iconst (v := nI 0) C d_X_isFacet_14 (by decide) ?_
    exact hR _ _ _ _ d_X_isFacet_15 rfl ⟨rfl, Or.inr ⟨rfl, rg_neg (by omega) h⟩⟩
  · refine jr_iload_0 C d_X_isFacet_4 ?_
    refine jr_bipush (v := nI 6) C d_X_isFacet_5 (by decide) ?_
    refine jr_icmp_ge (tgt := 14) C d_X_isFacet_7 (by decide) (fun h2 => ?_) (fun h2 => ?_)
    · refine jr_iconst (v := nI 0) C d_X_isFacet_14 (by decide) ?_
      exact hR _ _ _ _ d_X_isFacet_15 rfl ⟨rfl, Or.inr ⟨rfl, rg_big (by omega) h2⟩⟩
    · refine jr_iconst (v := nI 1) C d_X_isFacet_10 (by decide) ?_
      refine jr_goto (tgt := 15) C d_X_isFacet_11 (by decide) ?_
      exact hR _ _ _ _ d_X_isFacet_15 rfl ⟨rfl, Or.inl ⟨rfl, rg_in (by omega) h h2⟩⟩
theorem cX_isValue (x : Int32) : fx_MI l D cl_s tys w y_X_isValue (k_X_isValue :: tb_l) rm_X_isValue [.int x] σ (fun r u => u = σ ∧ rg_q (∃ j, j < 100 ∧ x = nI j) r) := by
  refine fx_enterI (by decide +kernel) [some (.int x)] rfl (Nat.le_of_ble_eq_true rfl) (Nat.le_of_ble_eq_true rfl) (fun X C hR => ?_)
  refine jr_iload_0 C d_X_isValue_0 ?_
  refine jr_if_lt (tgt := 14) C d_X_isValue_1 (by decide) (fun h => ?_) (fun h => ?_)
  · refine jr_iconst (v := nI 0) C d_X_isValue_14 (by decide) ?_
    exact hR _ _ _ _ d_X_isValue_15 rfl ⟨rfl, Or.inr ⟨rfl, rg_neg (by omega) h⟩⟩
  · refine jr_iload_0 C d_X_isValue_4 ?_
    refine jr_bipush (v := nI 100) C d_X_isValue_5 (by decide) ?_
    refine jr_icmp_ge (tgt := 14) C d_X_isValue_7 (by decide) (fun h2 => ?_) (fun h2 => ?_)
    · refine jr_iconst (v := nI 0) C d_X_isValue_14 (by decide) ?_
      exact hR _ _ _ _ d_X_isValue_15 rfl ⟨rfl, Or.inr ⟨rfl, rg_big (by omega) h2⟩⟩
    · refine jr_iconst (v := nI 1) C d_X_isValue_10 (by decide) ?_
      refine jr_goto (tgt := 15) C d_X_isValue_11 (by decide) ?_
      exact hR _ _ _ _ d_X_isValue_15 rfl ⟨rfl, Or.inl ⟨rfl, rg_in (by omega) h h2⟩⟩
theorem cX_cell (f v : Nat) : fx_MI l D cl_s tys w y_X_cell (k_X_cell :: tb_l) rm_X_cell [.int (nI f), .int (nI v)] σ (fun r u => u = σ ∧ r = nI (f * 100 + v)) := by
  refine fx_enterI (by decide +kernel) [some (.int (nI f)), some (.int (nI v))] rfl (Nat.le_of_ble_eq_true rfl) (Nat.le_of_ble_eq_true rfl) (fun X C hR => ?_)
  refine jr_iload_0 C d_X_cell_0 ?_
  refine jr_bipush (v := nI 100) C d_X_cell_1 (by decide) ?_
  refine jr_imulN C d_X_cell_3 ?_
  refine jr_iload_1 C d_X_cell_4 ?_
  refine jr_iaddN C d_X_cell_5 ?_
  exact hR _ _ _ _ d_X_cell_6 rfl ⟨rfl, rfl⟩
theorem cX_bit (r : Nat) : fx_ML l D cl_s tys w y_X_bit (k_X_bit :: tb_l) rm_X_bit [.int (nI r)] σ (fun z u => u = σ ∧ z = tb_1 r) := by
  refine fx_enterL (by decide +kernel) [some (.int (nI r))] rfl (Nat.le_of_ble_eq_true rfl) (Nat.le_of_ble_eq_true rfl) (fun X C hR => ?_)
  refine jr_lconst (v := 1) C d_X_bit_0 (by decide) ?_
  refine jr_iload_0 C d_X_bit_1 ?_
  refine jr_lshl C d_X_bit_2 rfl ?_
  exact hR _ _ _ _ d_X_bit_3 ⟨rfl, rfl⟩
theorem cJ_bitCount (x : Int64) : fx_MI l D cl_s tys w y_JL_bitCount (k_JL_bitCount :: tb_l) rm_JL_bitCount [.long x] σ (fun r u => u = σ ∧ r = nI (ct_n (tb_b x) 64)) := by
  refine fx_enterI (by decide +kernel) [some (.long x), none] rfl (Nat.le_of_ble_eq_true rfl) (Nat.le_of_ble_eq_true rfl) (fun X C hR => ?_)
  refine jr_lload_0 C d_JL_bitCount_0 ?_
  refine jr_lload_0 C d_JL_bitCount_1 ?_
  refine jr_iconst (v := nI 1) C d_JL_bitCount_2 (by decide) ?_
  refine jr_lushr C d_JL_bitCount_3 rfl ?_
  refine jr_ldc2 C d_JL_bitCount_4 (List.mem_cons_of_mem _ cl_JL_314) ?_
  refine jr_land C d_JL_bitCount_7 ?_
  refine jr_lsub C d_JL_bitCount_8 ?_
  refine jr_topl (fun i1 e1 => ?_)
  refine jr_lstore_0 C d_JL_bitCount_9 ?_
  refine jr_lload_0 C d_JL_bitCount_10 ?_
  refine jr_ldc2 C d_JL_bitCount_11 (List.mem_cons_of_mem _ cl_JL_316) ?_
  refine jr_land C d_JL_bitCount_14 ?_
  refine jr_lload_0 C d_JL_bitCount_15 ?_
  refine jr_iconst (v := nI 2) C d_JL_bitCount_16 (by decide) ?_
  refine jr_lushr C d_JL_bitCount_17 rfl ?_
  refine jr_ldc2 C d_JL_bitCount_18 (List.mem_cons_of_mem _ cl_JL_316) ?_
  refine jr_land C d_JL_bitCount_21 ?_
  refine jr_ladd C d_JL_bitCount_22 ?_
  refine jr_topl (fun i2 e2 => ?_)
  refine jr_lstore_0 C d_JL_bitCount_23 ?_
  refine jr_lload_0 C d_JL_bitCount_24 ?_
  refine jr_lload_0 C d_JL_bitCount_25 ?_
  refine jr_iconst (v := nI 4) C d_JL_bitCount_26 (by decide) ?_
  refine jr_lushr C d_JL_bitCount_27 rfl ?_
  refine jr_ladd C d_JL_bitCount_28 ?_
  refine jr_ldc2 C d_JL_bitCount_29 (List.mem_cons_of_mem _ cl_JL_318) ?_
  refine jr_land C d_JL_bitCount_32 ?_
  refine jr_topl (fun i3 e3 => ?_)
  refine jr_lstore_0 C d_JL_bitCount_33 ?_
  refine jr_lload_0 C d_JL_bitCount_34 ?_
  refine jr_lload_0 C d_JL_bitCount_35 ?_
  refine jr_bipush (v := nI 8) C d_JL_bitCount_36 (by decide) ?_
  refine jr_lushr C d_JL_bitCount_38 rfl ?_
  refine jr_ladd C d_JL_bitCount_39 ?_
  refine jr_topl (fun i4 e4 => ?_)
  refine jr_lstore_0 C d_JL_bitCount_40 ?_
  refine jr_lload_0 C d_JL_bitCount_41 ?_
  refine jr_lload_0 C d_JL_bitCount_42 ?_
  refine jr_bipush (v := nI 16) C d_JL_bitCount_43 (by decide) ?_
  refine jr_lushr C d_JL_bitCount_45 rfl ?_
  refine jr_ladd C d_JL_bitCount_46 ?_
  refine jr_topl (fun i5 e5 => ?_)
  refine jr_lstore_0 C d_JL_bitCount_47 ?_
  refine jr_lload_0 C d_JL_bitCount_48 ?_
  refine jr_lload_0 C d_JL_bitCount_49 ?_
  refine jr_bipush (v := nI 32) C d_JL_bitCount_50 (by decide) ?_
  refine jr_lushr C d_JL_bitCount_52 rfl ?_
  refine jr_ladd C d_JL_bitCount_53 ?_
  refine jr_topl (fun i6 e6 => ?_)
  refine jr_lstore_0 C d_JL_bitCount_54 ?_
  refine jr_lload_0 C d_JL_bitCount_55 ?_
  refine jr_l2i C d_JL_bitCount_56 rfl ?_
  refine jr_bipush (v := nI 127) C d_JL_bitCount_57 (by decide) ?_
  refine jr_iand C d_JL_bitCount_59 ?_
  exact hR _ _ _ _ d_JL_bitCount_60 rfl ⟨rfl, bc_main e1 e2 e3 e4 e5 e6⟩
theorem cX_commonDivisor (p a : Nat) (hp : p < 2 ^ 31) (ha : a < 2 ^ 31) (h0 : 0 < a) : fx_MI l D cl_s tys w y_X_commonDivisor (k_X_commonDivisor :: tb_l) rm_X_commonDivisor [.int (nI p), .int (nI a)] σ (fun r u => u = σ ∧ r = nI (Nat.gcd p a)) := by
  refine fx_enterI (by decide +kernel) [some (.int (nI p)), some (.int (nI a)), none] rfl (Nat.le_of_ble_eq_true rfl) (Nat.le_of_ble_eq_true rfl) (fun X C hR => ?_)
  refine jr_iload_1 C d_X_commonDivisor_0 ?_
  refine jr_istore_2 C d_X_commonDivisor_1 rfl ?_
  have L : ∀ d, d ≤ a → (∀ e, d < e → e ≤ a → ¬ (p % e = 0 ∧ a % e = 0)) → fx_J X (w σ) 2 [some (.int (nI p)), some (.int (nI a)), some (.int (nI d))] [] := by
    refine lp_dn (fun d ih hd hn => ?_)
    refine jr_iload_2 C d_X_commonDivisor_2 ?_
    refine jr_iconst (v := nI 1) C d_X_commonDivisor_3 (by decide) ?_
    refine jr_N_le (tgt := 27) C d_X_commonDivisor_4 (by decide) (by omega) (by omega) (fun h => ?_) (fun h => ?_)
    · refine jr_iconst (v := nI 1) C d_X_commonDivisor_27 (by decide) ?_
      refine (fun hz => ?_) (gd_top (d := 1) h0 (Nat.mod_one p) (Nat.mod_one a) (by omega) (fun e he hea => hn e (by omega) hea))
      exact hR _ _ _ _ d_X_commonDivisor_28 rfl ⟨rfl, by rw [← hz]⟩
    · have go : ¬ (p % d = 0 ∧ a % d = 0) → fx_J X (w σ) 21 [some (.int (nI p)), some (.int (nI a)), some (.int (nI d))] [] := by
        intro hnd
        obtain ⟨c, rfl⟩ : ∃ c, d = c + 1 := ⟨d - 1, by omega⟩
        refine jr_decN_2 C d_X_commonDivisor_21 rfl ?_
        refine jr_goto (tgt := 2) C d_X_commonDivisor_24 (by decide) ?_
        refine ih c rfl (by omega) (fun e he hea => ?_)
        by_cases q : e = c + 1
        · subst q
          exact hnd
        · exact hn e (by omega) hea
      refine jr_iload_0 C d_X_commonDivisor_7 ?_
      refine jr_iload_2 C d_X_commonDivisor_8 ?_
      refine jr_iremN C d_X_commonDivisor_9 (by omega) (by omega) (by omega) ?_
      refine jr_if_ne (tgt := 21) C d_X_commonDivisor_10 (by decide) (fun h1 => ?_) (fun h1 => ?_)
      · exact go (fun q => h1 (by rw [q.1]; exact nI_0))
      · refine jr_iload_1 C d_X_commonDivisor_13 ?_
        refine jr_iload_2 C d_X_commonDivisor_14 ?_
        refine jr_iremN C d_X_commonDivisor_15 (by omega) (by omega) (by omega) ?_
        refine jr_if_ne (tgt := 21) C d_X_commonDivisor_16 (by decide) (fun h2 => ?_) (fun h2 => ?_)
        · exact go (fun q => h2 (by rw [q.2]; exact nI_0))
        · refine jr_iload_2 C d_X_commonDivisor_19 ?_
          have e1 : p % d = 0 := (nI_eq (by have := Nat.mod_lt p (show 0 < d by omega); omega) (by omega)).mp (h1.trans nI_0.symm)
          have e2 : a % d = 0 := (nI_eq (by have := Nat.mod_lt a (show 0 < d by omega); omega) (by omega)).mp (h2.trans nI_0.symm)
          exact hR _ _ _ _ d_X_commonDivisor_20 rfl ⟨rfl, by rw [← gd_top h0 e1 e2 (by omega) hn]⟩
  exact L a (Nat.le_refl a) (fun e h1 h2 => by omega)
end LX
section KX
variable {X : fx_M} {l : Launch} {rm : Room} {D : va_G} {tys : List (ClassId × FieldType)} {cc : ByteArray} {c0 : Cond} {pc : Nat} {pl : List (Option Value)} {rest : List Value} {S : Type} {w : S → va_W} {σ : S}
theorem kX_cell {f v : Nat} (C : fx_C X l rm D cl_s tys cc (c0 :: tb_l) R_X) (hR : rm_X_cell.frames + 1 ≤ rm.frames ∧ 8 + (2 + 11) + rm_X_cell.locals ≤ rm.locals) (hrest : (rest.map fun v => v.category).sum ≤ 8) (hd : decode cc pc = .ok (.invokestatic 58, 3)) (kk : fx_J X (w σ) (pc + 3) pl (.int (nI (f * 100 + v)) :: rest)) : fx_J X (w σ) pc pl (.int (nI v) :: .int (nI f) :: rest) := qX_X_cell C (cX_cell l D tys w σ f v) hR hrest hd (fx_p (fun r h => by rw [h]; exact kk))
theorem kX_bit {r : Nat} (C : fx_C X l rm D cl_s tys cc (c0 :: tb_l) R_X) (hR : rm_X_bit.frames + 1 ≤ rm.frames ∧ 8 + (1 + 11) + rm_X_bit.locals ≤ rm.locals) (hrest : (rest.map fun v => v.category).sum ≤ 8) (hd : decode cc pc = .ok (.invokestatic 62, 3)) (kk : fx_J X (w σ) (pc + 3) pl (.long (tb_1 r) :: rest)) : fx_J X (w σ) pc pl (.int (nI r) :: rest) := qX_X_bit C (cX_bit l D tys w σ r) hR hrest hd (fx_p (fun r h => by rw [h]; exact kk))
theorem jr_eqi {ws : va_W} {st : List Value} {x y : Int32} (h : x = y) (kk : fx_J X ws pc pl (.int y :: st)) : fx_J X ws pc pl (.int x :: st) := by rw [h]; exact kk
theorem jr_eql {ws : va_W} {st : List Value} {x y : Int64} (h : x = y) (kk : fx_J X ws pc pl (.long y :: st)) : fx_J X ws pc pl (.long x :: st) := by rw [h]; exact kk
theorem mm_min : Lib.Math.min.name = y_JM_min := by decide +kernel
theorem mb_min : Lib.Math.min.code = b_JM_min := by decide +kernel
theorem mm_max : Lib.Math.max.name = y_JM_max := by decide +kernel
theorem mb_max : Lib.Math.max.code = b_JM_max := by decide +kernel
theorem kX_min {ws : va_W} {x y : Int32} (C : fx_C X l rm D cl_s tys cc (c0 :: tb_l) R_X) (hf : 1 ≤ rm.frames) (hlo : (rest.map fun v => v.category).sum + 13 ≤ rm.locals) (hd : decode cc pc = .ok (.invokestatic 117, 3)) (kk : fx_J X ws (pc + 3) pl (.int (if y < x then y else x) :: rest)) : fx_J X ws pc pl (.int y :: .int x :: rest) := by
  intro H locs ls hP hD hS hl
  obtain ⟨hx, hb, hml, hown, hts, hK, hA, hl0, hrm, hDD, hcl2, hfit⟩ := C
  exact va_mmin hx hb (by rw [hml]; exact hl.2.1.symm) hown (by rw [mm_min]; exact hts _ (List.mem_cons_of_mem _ ml_X_JM_min)) (by rw [mm_min]; exact hts _ (List.mem_cons_of_mem _ st_JM_min)) (hts _ (List.mem_cons_of_mem _ ii_JM)) (by rw [mm_min, mb_min]; exact hts _ (List.mem_cons_of_mem _ ci_JM_min)) (by rw [hrm]; exact hf) (by rw [hrm]; exact hlo) (by rw [hrm]; exact hfit.1) (by rw [hrm]; exact hfit.2) hd (kk H locs ls hP hD hS hl)
theorem kX_max {ws : va_W} {x y : Int32} (C : fx_C X l rm D cl_s tys cc (c0 :: tb_l) R_X) (hf : 1 ≤ rm.frames) (hlo : (rest.map fun v => v.category).sum + 13 ≤ rm.locals) (hd : decode cc pc = .ok (.invokestatic 122, 3)) (kk : fx_J X ws (pc + 3) pl (.int (if x < y then y else x) :: rest)) : fx_J X ws pc pl (.int y :: .int x :: rest) := by
  intro H locs ls hP hD hS hl
  obtain ⟨hx, hb, hml, hown, hts, hK, hA, hl0, hrm, hDD, hcl2, hfit⟩ := C
  exact va_mmax hx hb (by rw [hml]; exact hl.2.1.symm) hown (by rw [mm_max]; exact hts _ (List.mem_cons_of_mem _ ml_X_JM_max)) (by rw [mm_max]; exact hts _ (List.mem_cons_of_mem _ st_JM_max)) (hts _ (List.mem_cons_of_mem _ ii_JM)) (by rw [mm_max, mb_max]; exact hts _ (List.mem_cons_of_mem _ ci_JM_max)) (by rw [hrm]; exact hf) (by rw [hrm]; exact hlo) (by rw [hrm]; exact hfit.1) (by rw [hrm]; exact hfit.2) hd (kk H locs ls hP hD hS hl)
end KX
end
section
theorem rc_lt {x : Int32} {n : Nat} (hn : n < 2 ^ 31) (h : x < nI 1) : ¬ ∃ j, 1 ≤ j ∧ j ≤ n ∧ x = nI j := by
  rintro ⟨j, h1, h2, rfl⟩
  have := (nI_ltI (show j < 2 ^ 31 by omega) (by omega)).mp h
  omega
theorem rc_gt {x : Int32} {n : Nat} (hn : n < 2 ^ 31) (h : nI n < x) : ¬ ∃ j, 1 ≤ j ∧ j ≤ n ∧ x = nI j := by
  rintro ⟨j, h1, h2, rfl⟩
  have := (nI_ltI hn (show j < 2 ^ 31 by omega)).mp h
  omega
theorem rc_ok {x : Int32} {n : Nat} (hn : n < 2 ^ 31) (h1 : ¬ x < nI 1) (h2 : ¬ nI n < x) : ∃ j, 1 ≤ j ∧ j ≤ n ∧ x = nI j := by
  rw [Int32.lt_iff_toInt_lt, nI_toInt (by omega)] at h1
  rw [Int32.lt_iff_toInt_lt, nI_toInt hn] at h2
  refine ⟨x.toInt.toNat, by omega, by omega, ?_⟩
  apply Int32.toInt_inj.mp
  rw [nI_toInt (by omega)]
  omega
theorem lg_0 {x : Int64} : lg_cmp x 0 = 0 ↔ x = 0 := by
  unfold lg_cmp
  constructor
  · intro h
    split at h
    · exact absurd h (by decide)
    · split at h
      · assumption
      · exact absurd h (by decide)
  · intro h
    subst h
    decide
theorem ts_nf {x : Bool} (h : ¬ x = false) : x = true := by cases x <;> first | rfl | exact absurd rfl h
theorem ts_nt {x : Bool} (h : ¬ x = true) : x = false := by cases x <;> first | rfl | exact absurd rfl h
theorem nw_b (b : Bool) : narrow .boolean (.int (b01 b)) = .int (b01 b) := by cases b <;> decide
section HX
variable (l : Launch) (D : va_G) (q : Nat → Nat) (k : Nat → ClassId) (σ : sx_T)
theorem cX_isRecord (x : Int32) (n : Nat) (hn : n ≤ 60) (hr : x_rec σ = nI n) : fx_MI l D cl_s (ty_X k) (w_X q k) y_X_isRecord (k_X_isRecord :: tb_l) rm_X_isRecord [.ref (q 0), .int x] σ (fun r u => u = σ ∧ rg_q (∃ j, 1 ≤ j ∧ j ≤ n ∧ x = nI j) r) := by
  refine fx_enterI (by decide +kernel) [some (.ref (q 0)), some (.int x)] rfl (Nat.le_of_ble_eq_true rfl) (Nat.le_of_ble_eq_true rfl) (fun X C hR => ?_)
  refine jr_iload_1 C d_X_isRecord_0 ?_
  refine jr_iconst (v := nI 1) C d_X_isRecord_1 (by decide) ?_
  refine jr_icmp_lt (tgt := 17) C d_X_isRecord_2 (by decide) (fun h => ?_) (fun h => ?_)
  · refine jr_iconst (v := nI 0) C d_X_isRecord_17 (by decide) ?_
    exact hR _ _ _ _ d_X_isRecord_18 rfl ⟨rfl, Or.inr ⟨rfl, rc_lt (by omega) h⟩⟩
  · refine jr_iload_1 C d_X_isRecord_5 ?_
    refine jr_aload_0 C d_X_isRecord_6 ?_
    refine gX_records C d_X_isRecord_7 ?_
    rw [hr]
    refine jr_icmp_gt (tgt := 17) C d_X_isRecord_10 (by decide) (fun h2 => ?_) (fun h2 => ?_)
    · refine jr_iconst (v := nI 0) C d_X_isRecord_17 (by decide) ?_
      exact hR _ _ _ _ d_X_isRecord_18 rfl ⟨rfl, Or.inr ⟨rfl, rc_gt (by omega) h2⟩⟩
    · refine jr_iconst (v := nI 1) C d_X_isRecord_13 (by decide) ?_
      refine jr_goto (tgt := 18) C d_X_isRecord_14 (by decide) ?_
      exact hR _ _ _ _ d_X_isRecord_18 rfl ⟨rfl, Or.inl ⟨rfl, rc_ok (by omega) h h2⟩⟩
theorem cX_holds (r f v : Nat) (hr : r < 64) (hf : f < 6) (hv : v < 100) : fx_MI l D cl_s (ty_X k) (w_X q k) y_X_holds (k_X_holds :: tb_l) rm_X_holds [.ref (q 0), .int (nI r), .int (nI f), .int (nI v)] σ (fun z u => u = σ ∧ z = b01 (tb_b (x_hold σ (f * 100 + v)) r)) := by
  refine fx_enterI (by decide +kernel) [some (.ref (q 0)), some (.int (nI r)), some (.int (nI f)), some (.int (nI v))] rfl (Nat.le_of_ble_eq_true rfl) (Nat.le_of_ble_eq_true rfl) (fun X C hR => ?_)
  refine jr_aload_0 C d_X_holds_0 ?_
  refine gX_holders C d_X_holds_1 ?_
  refine jr_iload_2 C d_X_holds_4 ?_
  refine jr_iload_3 C d_X_holds_5 ?_
  refine kX_cell C ⟨Nat.le_of_ble_eq_true rfl, Nat.le_of_ble_eq_true rfl⟩ (Nat.le_of_ble_eq_true rfl) d_X_holds_6 ?_
  refine aX_holders C (by omega) d_X_holds_9 ?_
  refine jr_iload_1 C d_X_holds_10 ?_
  refine kX_bit C ⟨Nat.le_of_ble_eq_true rfl, Nat.le_of_ble_eq_true rfl⟩ (Nat.le_of_ble_eq_true rfl) d_X_holds_11 ?_
  refine jr_land C d_X_holds_14 ?_
  refine jr_lconst (v := 0) C d_X_holds_15 (by decide) ?_
  refine jr_lcmp C d_X_holds_16 ?_
  refine jr_if_eq (tgt := 24) C d_X_holds_17 (by decide) (fun h => ?_) (fun h => ?_)
  · refine jr_iconst (v := nI 0) C d_X_holds_24 (by decide) ?_
    rw [lg_0, tb_has hr] at h
    exact hR _ _ _ _ d_X_holds_25 rfl ⟨rfl, by rw [h]; rfl⟩
  · refine jr_iconst (v := nI 1) C d_X_holds_20 (by decide) ?_
    refine jr_goto (tgt := 25) C d_X_holds_21 (by decide) ?_
    rw [lg_0, tb_has hr] at h
    exact hR _ _ _ _ d_X_holds_25 rfl ⟨rfl, by rw [ts_nf h]; rfl⟩
theorem cX_heldOf (r f : Nat) (hr : r < 64) (hf : f < 6) : fx_MI l D cl_s (ty_X k) (w_X q k) y_X_heldOf (k_X_heldOf :: tb_l) rm_X_heldOf [.ref (q 0), .int (nI r), .int (nI f)] σ (fun z u => u = σ ∧ z = nI (ct_n (fun v => tb_b (x_hold σ (f * 100 + v)) r) 100)) := by
  refine fx_enterI (by decide +kernel) [some (.ref (q 0)), some (.int (nI r)), some (.int (nI f)), none, none] rfl (Nat.le_of_ble_eq_true rfl) (Nat.le_of_ble_eq_true rfl) (fun X C hR => ?_)
  refine jr_iconst (v := nI 0) C d_X_heldOf_0 (by decide) ?_
  refine jr_istore_3 C d_X_heldOf_1 rfl ?_
  refine jr_iconst (v := nI 0) C d_X_heldOf_2 (by decide) ?_
  refine jr_istore_4 C d_X_heldOf_3 rfl ?_
  have L := lp_up (P := fun v => fx_J X (w_X q k σ) 5 [some (.ref (q 0)), some (.int (nI r)), some (.int (nI f)), some (.int (nI (ct_n (fun v => tb_b (x_hold σ (f * 100 + v)) r) v))), some (.int (nI v))] []) 100 (fun v hv ih => ?_)
  · exact L 0 (by omega)
  · have go : ∀ c, c = ct_n (fun v => tb_b (x_hold σ (f * 100 + v)) r) (v + 1) → v < 100 → fx_J X (w_X q k σ) 26 [some (.ref (q 0)), some (.int (nI r)), some (.int (nI f)), some (.int (nI c)), some (.int (nI v))] [] := by
      intro c hc hv
      refine jr_incN_4 C d_X_heldOf_26 rfl ?_
      refine jr_goto (tgt := 5) C d_X_heldOf_29 (by decide) ?_
      rw [hc]
      exact ih hv
    refine jr_iload_4 C d_X_heldOf_5 ?_
    refine jr_bipush (v := nI 100) C d_X_heldOf_7 (by decide) ?_
    refine jr_N_ge (tgt := 32) C d_X_heldOf_9 (by decide) (by omega) (by omega) (fun h => ?_) (fun h => ?_)
    · refine jr_iload_3 C d_X_heldOf_32 ?_
      exact hR _ _ _ _ d_X_heldOf_33 rfl ⟨rfl, by rw [show v = 100 by omega]⟩
    · refine jr_aload_0 C d_X_heldOf_12 ?_
      refine jr_iload_1 C d_X_heldOf_13 ?_
      refine jr_iload_2 C d_X_heldOf_14 ?_
      refine jr_iload_4 C d_X_heldOf_15 ?_
      refine qX_X_holds C (cX_holds l D q k σ r f v hr hf h) rfl ⟨Nat.le_of_ble_eq_true rfl, Nat.le_of_ble_eq_true rfl⟩ (Nat.le_of_ble_eq_true rfl) d_X_heldOf_17 (fx_p (fun z hz => ?_))
      rw [hz]
      refine jr_if_eq (tgt := 26) C d_X_heldOf_20 (by decide) (fun h2 => ?_) (fun h2 => ?_)
      · exact go _ (ct_sf (p := fun v => tb_b (x_hold σ (f * 100 + v)) r) (b01_eq.mp h2)).symm h
      · refine jr_incN_3 C d_X_heldOf_23 rfl ?_
        exact go _ (ct_st (p := fun v => tb_b (x_hold σ (f * 100 + v)) r) (b01_ne.mp h2)).symm h
theorem cX_isAtOrBelow (p : Nat → Nat) (ht : tr_w p) (f v o : Nat) (hf : f < 6) (hv : v < 100) (ho : o < 100) (hb : ∀ u, u < 100 → x_bro σ (f * 100 + u) = en_p (p u)) : fx_MI l D cl_s (ty_X k) (w_X q k) y_X_isAtOrBelow (k_X_isAtOrBelow :: tb_l) rm_X_isAtOrBelow [.ref (q 0), .int (nI f), .int (nI v), .int (nI o)] σ (fun z u => u = σ ∧ z = b01 (bx_b (ab_o p v o))) := by
  refine fx_enterI (by decide +kernel) [some (.ref (q 0)), some (.int (nI f)), some (.int (nI v)), some (.int (nI o)), none, none] rfl (Nat.le_of_ble_eq_true rfl) (Nat.le_of_ble_eq_true rfl) (fun X C hR => ?_)
  refine jr_iload_2 C d_X_isAtOrBelow_0 ?_
  refine jr_istore_4 C d_X_isAtOrBelow_1 rfl ?_
  refine jr_iconst (v := nI 0) C d_X_isAtOrBelow_3 (by decide) ?_
  refine jr_istore_5 C d_X_isAtOrBelow_4 rfl ?_
  have L := lp_up (P := fun i => (∀ j, j < i → ¬ an_k p j v = o) → fx_J X (w_X q k σ) 6 [some (.ref (q 0)), some (.int (nI f)), some (.int (nI v)), some (.int (nI o)), some (.int (en_p (an_k p i v))), some (.int (nI i))] []) 100 (fun i hi ih hno => ?_)
  · have := L 0 (by omega) (fun j hj => by omega)
    rw [show an_k p 0 v = v from rfl, en_in hv] at this
    exact this
  · have out : (i = 100 ∨ 100 ≤ an_k p i v) → fx_J X (w_X q k σ) 48 [some (.ref (q 0)), some (.int (nI f)), some (.int (nI v)), some (.int (nI o)), some (.int (en_p (an_k p i v))), some (.int (nI i))] [] := by
      intro hk
      refine jr_iconst (v := nI 0) C d_X_isAtOrBelow_48 (by decide) ?_
      exact hR _ _ _ _ d_X_isAtOrBelow_49 rfl ⟨rfl, by
        rw [bx_neg.mpr (fun hh => ?_)]
        · rfl
        · obtain ⟨j, h1, h2⟩ := (ra_end ht hk ho).mpr hh
          exact hno j h1 h2⟩
    refine jr_iload_5 C d_X_isAtOrBelow_6 ?_
    refine jr_bipush (v := nI 100) C d_X_isAtOrBelow_8 (by decide) ?_
    refine jr_N_ge (tgt := 48) C d_X_isAtOrBelow_10 (by decide) (by omega) (by omega) (fun h => ?_) (fun h => ?_)
    · exact out (Or.inl (by omega))
    · refine jr_iload_4 C d_X_isAtOrBelow_13 ?_
      refine qX_X_isValue C (cX_isValue l D (ty_X k) (w_X q k) σ (en_p (an_k p i v))) ⟨Nat.le_of_ble_eq_true rfl, Nat.le_of_ble_eq_true rfl⟩ (Nat.le_of_ble_eq_true rfl) d_X_isAtOrBelow_15 (fx_p (fun z hz => ?_))
      rcases hz with ⟨rfl, hz⟩ | ⟨rfl, hz⟩
      · have hu : an_k p i v < 100 := en_val.mp hz
        refine jr_if_eq (tgt := 48) C d_X_isAtOrBelow_18 (by decide) (fun h2 => ?_) (fun h2 => ?_)
        · exact absurd h2 (by decide)
        · rw [en_in hu]
          refine jr_iload_4 C d_X_isAtOrBelow_21 ?_
          refine jr_iload_3 C d_X_isAtOrBelow_23 ?_
          refine jr_N_ne (tgt := 29) C d_X_isAtOrBelow_24 (by decide) (by omega) (by omega) (fun h3 => ?_) (fun h3 => ?_)
          · refine jr_aload_0 C d_X_isAtOrBelow_29 ?_
            refine gX_broaderOf C d_X_isAtOrBelow_30 ?_
            refine jr_iload_1 C d_X_isAtOrBelow_33 ?_
            refine jr_iload_4 C d_X_isAtOrBelow_34 ?_
            refine kX_cell C ⟨Nat.le_of_ble_eq_true rfl, Nat.le_of_ble_eq_true rfl⟩ (Nat.le_of_ble_eq_true rfl) d_X_isAtOrBelow_36 ?_
            refine aX_broaderOf C (by omega) d_X_isAtOrBelow_39 ?_
            refine jr_istore_4 C d_X_isAtOrBelow_40 rfl ?_
            rw [hb _ hu, ← an_s p]
            refine jr_incN_5 C d_X_isAtOrBelow_42 rfl ?_
            refine jr_goto (tgt := 6) C d_X_isAtOrBelow_45 (by decide) ?_
            exact ih h (fun j hj => by
              rcases Nat.lt_or_ge j i with q | q
              · exact hno j q
              · rw [show j = i by omega]; exact h3)
          · refine jr_iconst (v := nI 1) C d_X_isAtOrBelow_27 (by decide) ?_
            exact hR _ _ _ _ d_X_isAtOrBelow_28 rfl ⟨rfl, by rw [bx_iff.mpr ⟨i, h3⟩]; rfl⟩
      · have hu : ¬ an_k p i v < 100 := fun q => hz (en_val.mpr q)
        refine jr_if_eq (tgt := 48) C d_X_isAtOrBelow_18 (by decide) (fun h2 => ?_) (fun h2 => ?_)
        · exact out (Or.inr (by omega))
        · exact absurd nI_0 h2
end HX
end
section
section MX
variable (l : Launch) (D : va_G) (q : Nat → Nat) (k : Nat → ClassId) (σ : sx_T)
theorem cX_ranked (c : Nat → Nat) (i : Int32) (hc : ∀ v, v < 100 → x_cnt σ v = nI (c v) ∧ c v ≤ 60) : fx_MI l D cl_s (ty_X k) (w_X q k) y_X_ranked (k_X_ranked :: tb_l) rm_X_ranked [.ref (q 0), .int i] σ (fun r u => u = σ ∧ rk_res c i r) := by
  refine fx_enterI (by decide +kernel) [some (.ref (q 0)), some (.int i), none, none, none] rfl (Nat.le_of_ble_eq_true rfl) (Nat.le_of_ble_eq_true rfl) (fun X C hR => ?_)
  refine jr_iconst (v := nI 0) C d_X_ranked_0 (by decide) ?_
  refine jr_istore_2 C d_X_ranked_1 rfl ?_
  refine jr_bipush (v := nI 60) C d_X_ranked_2 (by decide) ?_
  refine jr_istore_3 C d_X_ranked_4 rfl ?_
  have L := lp_dn (P := fun m => m ≤ 60 → (∀ v, v < 100 → m < c v → ¬ nI (rk_b c v) = i) → fx_J X (w_X q k σ) 5 [some (.ref (q 0)), some (.int i), some (.int (nI (rk_p c m 0))), some (.int (nI m)), none] []) (fun m ih hm hno => ?_)
  · have := L 60 (by omega) (fun v hv h => by have := (hc v hv).2; omega)
    rw [rk_p0 (fun v hv => (hc v hv).2)] at this
    exact this
  · refine jr_iload_3 C d_X_ranked_5 ?_
    refine jr_iconst (v := nI 1) C d_X_ranked_6 (by decide) ?_
    refine jr_N_lt (tgt := 54) C d_X_ranked_7 (by decide) (by omega) (by omega) (fun h => ?_) (fun h => ?_)
    · refine jr_iconst (v := -1) C d_X_ranked_54 (by decide) ?_
      exact hR _ _ _ _ d_X_ranked_55 rfl ⟨rfl, Or.inr ⟨rfl, fun v hv h0 => hno v hv (by omega)⟩⟩
    · refine jr_iconst (v := nI 0) C d_X_ranked_10 (by decide) ?_
      refine jr_istore_4 C d_X_ranked_11 rfl ?_
      have L2 := lp_up (P := fun v => (∀ w, w < v → c w = m → ¬ nI (rk_b c w) = i) → fx_J X (w_X q k σ) 13 [some (.ref (q 0)), some (.int i), some (.int (nI (rk_p c m v))), some (.int (nI m)), some (.int (nI v))] []) 100 (fun v hv ih2 hno2 => ?_)
      · exact L2 0 (by omega) (fun w hw => by omega)
      · have go : ∀ b, b = rk_p c m (v + 1) → v < 100 → (c v = m → ¬ nI (rk_b c v) = i) → fx_J X (w_X q k σ) 42 [some (.ref (q 0)), some (.int i), some (.int (nI b)), some (.int (nI m)), some (.int (nI v))] [] := by
          intro b hb hv2 hv3
          refine jr_incN_4 C d_X_ranked_42 rfl ?_
          refine jr_goto (tgt := 13) C d_X_ranked_45 (by decide) ?_
          rw [hb]
          exact ih2 hv2 (fun w hw hcw => by
            by_cases e : w = v
            · rw [e]; exact hv3 (by rw [← e]; exact hcw)
            · exact hno2 w (by omega) hcw)
        refine jr_iload_4 C d_X_ranked_13 ?_
        refine jr_bipush (v := nI 100) C d_X_ranked_15 (by decide) ?_
        refine jr_N_ge (tgt := 48) C d_X_ranked_17 (by decide) (by omega) (by omega) (fun h2 => ?_) (fun h2 => ?_)
        · obtain ⟨m2, rfl⟩ : ∃ m2, m = m2 + 1 := ⟨m - 1, by omega⟩
          refine jr_decN_3 C d_X_ranked_48 rfl ?_
          refine jr_goto (tgt := 5) C d_X_ranked_51 (by decide) ?_
          rw [show v = 100 by omega, rk_pn]
          have := ih m2 rfl (by omega) (fun w hw hcw => by
            by_cases e : c w = m2 + 1
            · exact hno2 w (by omega) e
            · exact hno w hw (by omega))
          intro H locs ls hP hD hS hl
          exact this H locs ls hP hD hS ⟨hl.1, lv_sub hl.2 [0, 1, 2, 3] rfl⟩
        · refine jr_aload_0 C d_X_ranked_20 ?_
          refine gX_counts C d_X_ranked_21 ?_
          refine jr_iload_4 C d_X_ranked_24 ?_
          refine aX_counts C (by omega) d_X_ranked_26 ?_
          refine jr_eqi (hc v h2).1 ?_
          have hcv := (hc v h2).2
          refine jr_iload_3 C d_X_ranked_27 ?_
          refine jr_N_ne (tgt := 42) C d_X_ranked_28 (by decide) (by omega) (by omega) (fun h3 => ?_) (fun h3 => ?_)
          · exact go _ (rk_pf h3).symm h2 (fun e => absurd e h3)
          · refine jr_iload_2 C d_X_ranked_31 ?_
            refine jr_iload_1 C d_X_ranked_32 ?_
            refine jr_icmp_ne (tgt := 39) C d_X_ranked_33 (by decide) (fun h4 => ?_) (fun h4 => ?_)
            · refine jr_incN_2 C d_X_ranked_39 rfl ?_
              exact go _ (rk_pt h2 h3).symm h2 (fun e => by rw [← rk_pb e]; exact h4)
            · refine jr_iload_4 C d_X_ranked_36 ?_
              exact hR _ _ _ _ d_X_ranked_38 rfl ⟨rfl, Or.inl ⟨v, h2, by omega, by rw [← rk_pb h3]; exact h4, rfl⟩⟩
theorem cX_drop (f : Nat) (b : Int32) (hf : f < 6) : fx_MV l D cl_s (ty_X k) (w_X q k) y_X_dropOthersThanBelow (k_X_dropOthersThanBelow :: tb_l) rm_X_dropOthersThanBelow [.ref (q 0), .int (nI f), .int b] σ (fun u => ∃ c, u = xs_cnt σ c ∧ ∀ v, v < 100 → c v = if x_bro σ (f * 100 + v) = b then x_cnt σ v else nI 0) := by
  refine fx_enterV (by decide +kernel) [some (.ref (q 0)), some (.int (nI f)), some (.int b), none] rfl (Nat.le_of_ble_eq_true rfl) (Nat.le_of_ble_eq_true rfl) (fun X C hR => ?_)
  refine jr_iconst (v := nI 0) C d_X_dropOthersThanBelow_0 (by decide) ?_
  refine jr_istore_3 C d_X_dropOthersThanBelow_1 rfl ?_
  have L := lp_up (P := fun v => ∀ c : Nat → Int32, (∀ w, w < v → c w = if x_bro σ (f * 100 + w) = b then x_cnt σ w else nI 0) → (∀ w, v ≤ w → c w = x_cnt σ w) → fx_J X (w_X q k (xs_cnt σ c)) 2 [some (.ref (q 0)), some (.int (nI f)), some (.int b), some (.int (nI v))] []) 100 (fun v hv ih c h1 h2 => ?_)
  · exact L 0 (by omega) (x_cnt σ) (fun w hw => by omega) (fun w _ => rfl)
  · have go : ∀ c2 : Nat → Int32, v < 100 → c2 v = (if x_bro σ (f * 100 + v) = b then x_cnt σ v else nI 0) → (∀ w, w ≠ v → c2 w = c w) → fx_J X (w_X q k (xs_cnt σ c2)) 29 [some (.ref (q 0)), some (.int (nI f)), some (.int b), some (.int (nI v))] [] := by
      intro c2 hv2 e1 e2
      refine jr_incN_3 C d_X_dropOthersThanBelow_29 rfl ?_
      refine jr_goto (tgt := 2) C d_X_dropOthersThanBelow_32 (by decide) ?_
      refine ih hv2 c2 (fun w hw => ?_) (fun w hw => ?_)
      · by_cases e : w = v
        · rw [e]; exact e1
        · rw [e2 w e]; exact h1 w (by omega)
      · rw [e2 w (by omega)]; exact h2 w (by omega)
    refine jr_iload_3 C d_X_dropOthersThanBelow_2 ?_
    refine jr_bipush (v := nI 100) C d_X_dropOthersThanBelow_3 (by decide) ?_
    refine jr_N_ge (tgt := 35) C d_X_dropOthersThanBelow_5 (by decide) (by omega) (by omega) (fun h => ?_) (fun h => ?_)
    · exact hR _ _ _ d_X_dropOthersThanBelow_35 ⟨c, rfl, fun w hw => h1 w (by omega)⟩
    · refine jr_aload_0 C d_X_dropOthersThanBelow_8 ?_
      refine gX_broaderOf C d_X_dropOthersThanBelow_9 ?_
      refine jr_iload_1 C d_X_dropOthersThanBelow_12 ?_
      refine jr_iload_3 C d_X_dropOthersThanBelow_13 ?_
      refine kX_cell C ⟨Nat.le_of_ble_eq_true rfl, Nat.le_of_ble_eq_true rfl⟩ (Nat.le_of_ble_eq_true rfl) d_X_dropOthersThanBelow_14 ?_
      refine aX_broaderOf C (by omega) d_X_dropOthersThanBelow_17 ?_
      refine jr_iload_2 C d_X_dropOthersThanBelow_18 ?_
      refine jr_icmp_eq (tgt := 29) C d_X_dropOthersThanBelow_19 (by decide) (fun h3 => ?_) (fun h3 => ?_)
      · exact go c h (by rw [if_pos h3]; exact h2 v (Nat.le_refl v)) (fun w _ => rfl)
      · refine jr_aload_0 C d_X_dropOthersThanBelow_22 ?_
        refine gX_counts C d_X_dropOthersThanBelow_23 ?_
        refine jr_iload_3 C d_X_dropOthersThanBelow_26 ?_
        refine jr_iconst (v := nI 0) C d_X_dropOthersThanBelow_27 (by decide) ?_
        refine sX_counts C (by omega) d_X_dropOthersThanBelow_28 ?_
        exact go _ h (by rw [if_neg h3]; exact pk_us) (fun w hw => pk_un hw)
theorem cX_raise (p : Nat → Nat) (ht : tr_w p) (f v : Nat) (s : Int64) (hf : f < 6) (hv : v < 100) (hb : ∀ u, u < 100 → x_bro σ (f * 100 + u) = en_p (p u)) : fx_MV l D cl_s (ty_X k) (w_X q k) y_X_raise (k_X_raise :: tb_l) rm_X_raise [.ref (q 0), .int (nI f), .int (nI v), .long s] σ (fun u => ∃ h, u = xs_hav σ h ∧ ∀ i r, tb_b (h i) r = (tb_b (x_hav σ i) r || (bx_b (∃ c, c < 100 ∧ i = f * 100 + c ∧ ab_o p v c) && tb_b s r))) := by
  refine fx_enterV (by decide +kernel) [some (.ref (q 0)), some (.int (nI f)), some (.int (nI v)), some (.long s), none, none, none] rfl (Nat.le_of_ble_eq_true rfl) (Nat.le_of_ble_eq_true rfl) (fun X C hR => ?_)
  refine jr_iload_2 C d_X_raise_0 ?_
  refine jr_istore_5 C d_X_raise_1 rfl ?_
  refine jr_iconst (v := nI 0) C d_X_raise_3 (by decide) ?_
  refine jr_istore_6 C d_X_raise_4 rfl ?_
  have L := lp_up (P := fun n => ∀ h : Nat → Int64, (∀ i r, tb_b (h i) r = (tb_b (x_hav σ i) r || (bx_b (∃ j, j < n ∧ an_k p j v < 100 ∧ i = f * 100 + an_k p j v) && tb_b s r))) → fx_J X (w_X q k (xs_hav σ h)) 6 [some (.ref (q 0)), some (.int (nI f)), some (.int (nI v)), some (.long s), none, some (.int (en_p (an_k p n v))), some (.int (nI n))] []) 100 (fun n hn ih h hh => ?_)
  · have := L 0 (by omega) (x_hav σ) (fun i r => by
      rw [bx_neg.mpr (fun ⟨j, hj, _⟩ => by omega)]
      simp)
    rw [show an_k p 0 v = v from rfl, en_in hv] at this
    exact this
  · have out : (n = 100 ∨ 100 ≤ an_k p n v) → fx_J X (w_X q k (xs_hav σ h)) 55 [some (.ref (q 0)), some (.int (nI f)), some (.int (nI v)), some (.long s), none, some (.int (en_p (an_k p n v))), some (.int (nI n))] [] := by
      intro hk
      exact hR _ _ _ d_X_raise_55 ⟨h, rfl, fun i r => by
        rw [hh i r, bx_congr (p := ∃ j, j < n ∧ an_k p j v < 100 ∧ i = f * 100 + an_k p j v) (q := ∃ c, c < 100 ∧ i = f * 100 + c ∧ ab_o p v c) ?_]
        constructor
        · rintro ⟨j, h1, h2, h3⟩
          exact ⟨an_k p j v, h2, h3, j, rfl⟩
        · rintro ⟨c, h1, h2, h3⟩
          obtain ⟨j, h4, h5⟩ := (ra_end ht hk h1).mpr h3
          exact ⟨j, h4, by omega, by rw [h5]; exact h2⟩⟩
    refine jr_iload_6 C d_X_raise_6 ?_
    refine jr_bipush (v := nI 100) C d_X_raise_8 (by decide) ?_
    refine jr_N_ge (tgt := 55) C d_X_raise_10 (by decide) (by omega) (by omega) (fun h1 => ?_) (fun h1 => ?_)
    · exact out (Or.inl (by omega))
    · refine jr_iload_5 C d_X_raise_13 ?_
      refine qX_X_isValue C (cX_isValue l D (ty_X k) (w_X q k) (xs_hav σ h) (en_p (an_k p n v))) ⟨Nat.le_of_ble_eq_true rfl, Nat.le_of_ble_eq_true rfl⟩ (Nat.le_of_ble_eq_true rfl) d_X_raise_15 (fx_p (fun z hz => ?_))
      rcases hz with ⟨rfl, hz⟩ | ⟨rfl, hz⟩
      · have hu : an_k p n v < 100 := en_val.mp hz
        refine jr_if_eq (tgt := 55) C d_X_raise_18 (by decide) (fun h2 => ?_) (fun h2 => ?_)
        · exact absurd h2 (by decide)
        · rw [en_in hu]
          refine jr_aload_0 C d_X_raise_21 ?_
          refine gX_havers C d_X_raise_22 ?_
          refine jr_iload_1 C d_X_raise_25 ?_
          refine jr_iload_5 C d_X_raise_26 ?_
          refine kX_cell C ⟨Nat.le_of_ble_eq_true rfl, Nat.le_of_ble_eq_true rfl⟩ (Nat.le_of_ble_eq_true rfl) d_X_raise_28 ?_
          refine jr_dup2_11 C d_X_raise_31 rfl rfl ?_
          refine aX_havers C (by omega) d_X_raise_32 ?_
          refine jr_lload_3 C d_X_raise_33 ?_
          refine jr_lor C d_X_raise_34 ?_
          refine sX_havers C (by omega) d_X_raise_35 ?_
          refine jr_aload_0 C d_X_raise_36 ?_
          refine gX_broaderOf C d_X_raise_37 ?_
          refine jr_iload_1 C d_X_raise_40 ?_
          refine jr_iload_5 C d_X_raise_41 ?_
          refine kX_cell C ⟨Nat.le_of_ble_eq_true rfl, Nat.le_of_ble_eq_true rfl⟩ (Nat.le_of_ble_eq_true rfl) d_X_raise_43 ?_
          refine aX_broaderOf C (by omega) d_X_raise_46 ?_
          refine jr_eqi (hb _ hu) ?_
          rw [← an_s p]
          refine jr_istore_5 C d_X_raise_47 rfl ?_
          refine jr_incN_6 C d_X_raise_49 rfl ?_
          refine jr_goto (tgt := 6) C d_X_raise_52 (by decide) ?_
          refine ih h1 _ (fun i r => ?_)
          by_cases e : i = f * 100 + an_k p n v
          · subst e
            have e2 : bx_b (∃ j, j < n + 1 ∧ an_k p j v < 100 ∧ f * 100 + an_k p n v = f * 100 + an_k p j v) = true := bx_iff.mpr ⟨n, by omega, hu, rfl⟩
            rw [show vp_updL h (f * 100 + an_k p n v) (h (f * 100 + an_k p n v) ||| s) (f * 100 + an_k p n v) = h (f * 100 + an_k p n v) ||| s from pk_uLs, tb_or, hh, e2]
            cases tb_b (x_hav σ (f * 100 + an_k p n v)) r <;> cases tb_b s r <;> simp
          · rw [show vp_updL h (f * 100 + an_k p n v) (h (f * 100 + an_k p n v) ||| s) i = h i from pk_uLn e, hh, bx_congr (p := ∃ j, j < n ∧ an_k p j v < 100 ∧ i = f * 100 + an_k p j v) (q := ∃ j, j < n + 1 ∧ an_k p j v < 100 ∧ i = f * 100 + an_k p j v) ?_]
            constructor
            · rintro ⟨j, g1, g2⟩
              exact ⟨j, by omega, g2⟩
            · rintro ⟨j, g1, g2, g3⟩
              by_cases ej : j = n
              · subst ej
                exact absurd g3 e
              · exact ⟨j, by omega, g2, g3⟩
      · have hu : ¬ an_k p n v < 100 := fun q => hz (en_val.mpr q)
        refine jr_if_eq (tgt := 55) C d_X_raise_18 (by decide) (fun h2 => ?_) (fun h2 => ?_)
        · exact out (Or.inr (by omega))
        · exact absurd nI_0 h2
end MX
end
section
section AX
variable (l : Launch) (D : va_G) (q : Nat → Nat) (k : Nat → ClassId) (σ : sx_T)
theorem cX_raiseAll (p : Nat → Nat) (ht : tr_w p) (f : Nat) (hf : f < 6) (hb : ∀ u, u < 100 → x_bro σ (f * 100 + u) = en_p (p u)) : fx_MV l D cl_s (ty_X k) (w_X q k) y_X_raiseAll (k_X_raiseAll :: tb_l) rm_X_raiseAll [.ref (q 0), .int (nI f)] σ (fun u => ∃ h, u = xs_hav σ h ∧ (∀ c r, c < 100 → tb_b (h (f * 100 + c)) r = bx_b (∃ w, w < 100 ∧ tb_b (x_hold σ (f * 100 + w)) r = true ∧ ab_o p w c)) ∧ ∀ i r, (¬ ∃ c, c < 100 ∧ i = f * 100 + c) → tb_b (h i) r = tb_b (x_hav σ i) r) := by
  refine fx_enterV (by decide +kernel) [some (.ref (q 0)), some (.int (nI f)), none, none, none] rfl (Nat.le_of_ble_eq_true rfl) (Nat.le_of_ble_eq_true rfl) (fun X C hR => ?_)
  refine jr_iconst (v := nI 0) C d_X_raiseAll_0 (by decide) ?_
  refine jr_istore_2 C d_X_raiseAll_1 rfl ?_
  have L2 := lp_up (P := fun v => ∀ (z : List (Option Value)) (h : Nat → Int64), z.length = 2 → (∀ c r, c < 100 → tb_b (h (f * 100 + c)) r = bx_b (∃ w, w < v ∧ tb_b (x_hold σ (f * 100 + w)) r = true ∧ ab_o p w c)) → (∀ i r, (¬ ∃ c, c < 100 ∧ i = f * 100 + c) → tb_b (h i) r = tb_b (x_hav σ i) r) → fx_J X (w_X q k (xs_hav σ h)) 27 (some (.ref (q 0)) :: some (.int (nI f)) :: some (.int (nI v)) :: z) []) 100 (fun v hv ih z h hz h1 h2 => ?_)
  · have L1 := lp_up (P := fun v => ∀ h : Nat → Int64, (∀ c r, c < v → tb_b (h (f * 100 + c)) r = false) → (∀ i r, (¬ ∃ c, c < 100 ∧ i = f * 100 + c) → tb_b (h i) r = tb_b (x_hav σ i) r) → fx_J X (w_X q k (xs_hav σ h)) 2 [some (.ref (q 0)), some (.int (nI f)), some (.int (nI v)), none, none] []) 100 (fun v hv ih h h1 h2 => ?_)
    · exact L1 0 (by omega) (x_hav σ) (fun c r hc => by omega) (fun _ _ _ => rfl)
    · refine jr_iload_2 C d_X_raiseAll_2 ?_
      refine jr_bipush (v := nI 100) C d_X_raiseAll_3 (by decide) ?_
      refine jr_N_ge (tgt := 25) C d_X_raiseAll_5 (by decide) (by omega) (by omega) (fun h3 => ?_) (fun h3 => ?_)
      · refine jr_iconst (v := nI 0) C d_X_raiseAll_25 (by decide) ?_
        refine jr_istore_2 C d_X_raiseAll_26 rfl ?_
        refine L2 0 (by omega) [none, none] h rfl (fun c r hc => ?_) h2
        rw [h1 c r (by omega), bx_neg.mpr (fun ⟨w, hw, _⟩ => by omega)]
      · refine jr_aload_0 C d_X_raiseAll_8 ?_
        refine gX_havers C d_X_raiseAll_9 ?_
        refine jr_iload_1 C d_X_raiseAll_12 ?_
        refine jr_iload_2 C d_X_raiseAll_13 ?_
        refine kX_cell C ⟨Nat.le_of_ble_eq_true rfl, Nat.le_of_ble_eq_true rfl⟩ (Nat.le_of_ble_eq_true rfl) d_X_raiseAll_14 ?_
        refine jr_lconst (v := 0) C d_X_raiseAll_17 (by decide) ?_
        refine sX_havers C (by omega) d_X_raiseAll_18 ?_
        refine jr_incN_2 C d_X_raiseAll_19 rfl ?_
        refine jr_goto (tgt := 2) C d_X_raiseAll_22 (by decide) ?_
        refine ih h3 _ (fun c r hc => ?_) (fun i r hi => ?_)
        · by_cases e : c = v
          · subst e
            rw [show vp_updL h (f * 100 + c) 0 (f * 100 + c) = 0 from pk_uLs, tb_0]
          · rw [show vp_updL h (f * 100 + v) 0 (f * 100 + c) = h (f * 100 + c) from pk_uLn (by omega)]
            exact h1 c r (by omega)
        · rw [show vp_updL h (f * 100 + v) 0 i = h i from pk_uLn (fun e => hi ⟨v, h3, e⟩)]
          exact h2 i r hi
  · obtain ⟨z0, z1, rfl⟩ : ∃ z0 z1, z = [z0, z1] := by
      match z, hz with
      | [z0, z1], _ => exact ⟨z0, z1, rfl⟩
    refine jr_iload_2 C d_X_raiseAll_27 ?_
    refine jr_bipush (v := nI 100) C d_X_raiseAll_28 (by decide) ?_
    refine jr_N_ge (tgt := 63) C d_X_raiseAll_30 (by decide) (by omega) (by omega) (fun h3 => ?_) (fun h3 => ?_)
    · exact hR _ _ _ d_X_raiseAll_63 ⟨h, rfl, fun c r hc => by rw [h1 c r hc, show v = 100 by omega], h2⟩
    · have go : ∀ (h9 : Nat → Int64) (zz : List (Option Value)), zz.length = 2 → (∀ c r, c < 100 → tb_b (h9 (f * 100 + c)) r = bx_b (∃ w, w < v + 1 ∧ tb_b (x_hold σ (f * 100 + w)) r = true ∧ ab_o p w c)) → (∀ i r, (¬ ∃ c, c < 100 ∧ i = f * 100 + c) → tb_b (h9 i) r = tb_b (x_hav σ i) r) → fx_J X (w_X q k (xs_hav σ h9)) 57 (some (.ref (q 0)) :: some (.int (nI f)) :: some (.int (nI v)) :: zz) [] := by
        intro h9 zz hzz g1 g2
        refine jr_incN_2 C d_X_raiseAll_57 rfl ?_
        refine jr_goto (tgt := 27) C d_X_raiseAll_60 (by decide) ?_
        exact ih h3 zz h9 hzz g1 g2
      refine jr_aload_0 C d_X_raiseAll_33 ?_
      refine gX_holders C d_X_raiseAll_34 ?_
      refine jr_iload_1 C d_X_raiseAll_37 ?_
      refine jr_iload_2 C d_X_raiseAll_38 ?_
      refine kX_cell C ⟨Nat.le_of_ble_eq_true rfl, Nat.le_of_ble_eq_true rfl⟩ (Nat.le_of_ble_eq_true rfl) d_X_raiseAll_39 ?_
      refine aX_holders C (by omega) d_X_raiseAll_42 ?_
      refine jr_lstore_3 C d_X_raiseAll_43 rfl ?_
      refine jr_lload_3 C d_X_raiseAll_44 ?_
      refine jr_lconst (v := 0) C d_X_raiseAll_45 (by decide) ?_
      refine jr_lcmp C d_X_raiseAll_46 ?_
      refine jr_if_eq (tgt := 57) C d_X_raiseAll_47 (by decide) (fun h4 => ?_) (fun h4 => ?_)
      · refine go h _ rfl (fun c r hc => ?_) h2
        rw [h1 c r hc]
        refine bx_congr ⟨fun ⟨w, hw, g⟩ => ⟨w, by omega, g⟩, fun ⟨w, hw, g1, g2⟩ => ?_⟩
        by_cases e : w = v
        · subst e
          have h5 : x_hold σ (f * 100 + w) = 0 := (lg_cmp_eq _ _).mp h4
          rw [h5, tb_0] at g1
          exact absurd g1 (by decide)
        · exact ⟨w, by omega, g1, g2⟩
      · refine jr_aload_0 C d_X_raiseAll_50 ?_
        refine jr_iload_1 C d_X_raiseAll_51 ?_
        refine jr_iload_2 C d_X_raiseAll_52 ?_
        refine jr_lload_3 C d_X_raiseAll_53 ?_
        refine qX_X_raise C (cX_raise l D q k (xs_hav σ h) p ht f v (x_hold σ (f * 100 + v)) hf h3 hb) rfl ⟨Nat.le_of_ble_eq_true rfl, Nat.le_of_ble_eq_true rfl⟩ (Nat.le_of_ble_eq_true rfl) d_X_raiseAll_54 (fun u hu => ?_)
        obtain ⟨h9, rfl, g9⟩ := hu
        refine go h9 _ rfl (fun c r hc => ?_) (fun i r hi => ?_)
        · rw [g9, show tb_b (x_hav (xs_hav σ h) (f * 100 + c)) r = tb_b (h (f * 100 + c)) r from rfl, h1 c r hc]
          apply bl_eq
          rw [Bool.or_eq_true, Bool.and_eq_true, bx_iff, bx_iff, bx_iff]
          constructor
          · rintro (⟨w, g1, g2, g3⟩ | ⟨⟨c2, g1, g2, g3⟩, g4⟩)
            · exact ⟨w, by omega, g2, g3⟩
            · have e : c = c2 := by omega
              subst e
              exact ⟨v, by omega, g4, g3⟩
          · rintro ⟨w, g1, g2, g3⟩
            by_cases e : w = v
            · subst e
              exact Or.inr ⟨⟨c, hc, rfl, g3⟩, g2⟩
            · exact Or.inl ⟨w, by omega, g2, g3⟩
        · rw [g9, show tb_b (x_hav (xs_hav σ h) i) r = tb_b (h i) r from rfl, h2 i r hi, bx_neg.mpr (fun ⟨c2, g1, g2, _⟩ => hi ⟨c2, g1, g2⟩)]
          simp
theorem cX_admitted (a : ab_T) (hx : rx_r a σ) (f : Nat) (hf : f < 6) : fx_ML l D cl_s (ty_X k) (w_X q k) y_X_admitted (k_X_admitted :: tb_l) rm_X_admitted [.ref (q 0), .int (nI f)] σ (fun z u => u = σ ∧ ∀ r, r < 64 → tb_b z r = bx_b ((∃ v, v < 100 ∧ a_cho a f v = true) → ∃ v, v < 100 ∧ a_cho a f v = true ∧ a_has a r f v)) := by
  obtain ⟨-, -, -, hhav, -, hcho, -⟩ := hx
  refine fx_enterL (by decide +kernel) [some (.ref (q 0)), some (.int (nI f)), none, none, none, none] rfl (Nat.le_of_ble_eq_true rfl) (Nat.le_of_ble_eq_true rfl) (fun X C hR => ?_)
  refine jr_iconst (v := nI 0) C d_X_admitted_0 (by decide) ?_
  refine jr_istore_2 C d_X_admitted_1 rfl ?_
  refine jr_lconst (v := 0) C d_X_admitted_2 (by decide) ?_
  refine jr_lstore_3 C d_X_admitted_3 rfl ?_
  refine jr_iconst (v := nI 0) C d_X_admitted_4 (by decide) ?_
  refine jr_istore_5 C d_X_admitted_5 rfl ?_
  have L := lp_up (P := fun v => ∀ s : Int64, (∀ r, r < 64 → tb_b s r = bx_b (∃ w, w < v ∧ a_cho a f w = true ∧ a_has a r f w)) → fx_J X (w_X q k σ) 7 [some (.ref (q 0)), some (.int (nI f)), some (.int (b01 (bx_b (∃ w, w < v ∧ a_cho a f w = true)))), some (.long s), none, some (.int (nI v))] []) 100 (fun v hv ih s hs => ?_)
  · have := L 0 (by omega) 0 (fun r _ => by rw [tb_0, bx_neg.mpr (fun ⟨w, hw, _⟩ => by omega)])
    rw [bx_neg.mpr (fun ⟨w, hw, _⟩ => by omega)] at this
    exact this
  · have go : ∀ (b : Int32) (s2 : Int64), v < 100 → b = b01 (bx_b (∃ w, w < v + 1 ∧ a_cho a f w = true)) → (∀ r, r < 64 → tb_b s2 r = bx_b (∃ w, w < v + 1 ∧ a_cho a f w = true ∧ a_has a r f w)) → fx_J X (w_X q k σ) 44 [some (.ref (q 0)), some (.int (nI f)), some (.int b), some (.long s2), none, some (.int (nI v))] [] := by
      intro b s2 hv2 hb hs2
      refine jr_incN_5 C d_X_admitted_44 rfl ?_
      refine jr_goto (tgt := 7) C d_X_admitted_47 (by decide) ?_
      rw [hb]
      exact ih hv2 s2 hs2
    refine jr_iload_5 C d_X_admitted_7 ?_
    refine jr_bipush (v := nI 100) C d_X_admitted_9 (by decide) ?_
    refine jr_N_ge (tgt := 50) C d_X_admitted_11 (by decide) (by omega) (by omega) (fun h => ?_) (fun h => ?_)
    · have ev : v = 100 := by omega
      subst ev
      refine jr_iload_2 C d_X_admitted_50 ?_
      refine jr_if_eq (tgt := 58) C d_X_admitted_51 (by decide) (fun h2 => ?_) (fun h2 => ?_)
      · refine jr_ldc2 C d_X_admitted_58 (List.mem_cons_of_mem _ cl_X_73) ?_
        rw [b01_eq, bx_neg] at h2
        exact hR _ _ _ _ d_X_admitted_61 ⟨rfl, fun r hr => by rw [tb_m1 r hr, bx_iff.mpr (fun g => absurd g h2)]⟩
      · refine jr_lload_3 C d_X_admitted_54 ?_
        refine jr_goto (tgt := 61) C d_X_admitted_55 (by decide) ?_
        rw [b01_ne, bx_iff] at h2
        exact hR _ _ _ _ d_X_admitted_61 ⟨rfl, fun r hr => by rw [hs r hr]; exact bx_congr ⟨fun g _ => g, fun g => g h2⟩⟩
    · refine jr_aload_0 C d_X_admitted_14 ?_
      refine gX_chosen C d_X_admitted_15 ?_
      refine jr_iload_1 C d_X_admitted_18 ?_
      refine jr_iload_5 C d_X_admitted_19 ?_
      refine kX_cell C ⟨Nat.le_of_ble_eq_true rfl, Nat.le_of_ble_eq_true rfl⟩ (Nat.le_of_ble_eq_true rfl) d_X_admitted_21 ?_
      refine aX_chosen C (by omega) d_X_admitted_24 ?_
      refine jr_eqi (hcho f v hf h) ?_
      refine jr_if_eq (tgt := 44) C d_X_admitted_25 (by decide) (fun h2 => ?_) (fun h2 => ?_)
      · rw [b01_eq] at h2
        refine go _ s h ?_ (fun r hr => ?_)
        · congr 1
          refine bx_congr ⟨fun ⟨w, g1, g2⟩ => ⟨w, by omega, g2⟩, fun ⟨w, g1, g2⟩ => ?_⟩
          by_cases e : w = v
          · rw [e, h2] at g2
            exact absurd g2 (by decide)
          · exact ⟨w, by omega, g2⟩
        · rw [hs r hr]
          refine bx_congr ⟨fun ⟨w, g1, g2⟩ => ⟨w, by omega, g2⟩, fun ⟨w, g1, g2, g3⟩ => ?_⟩
          by_cases e : w = v
          · rw [e, h2] at g2
            exact absurd g2 (by decide)
          · exact ⟨w, by omega, g2, g3⟩
      · rw [b01_ne] at h2
        refine jr_iconst (v := nI 1) C d_X_admitted_28 (by decide) ?_
        refine jr_istore_2 C d_X_admitted_29 rfl ?_
        refine jr_lload_3 C d_X_admitted_30 ?_
        refine jr_aload_0 C d_X_admitted_31 ?_
        refine gX_havers C d_X_admitted_32 ?_
        refine jr_iload_1 C d_X_admitted_35 ?_
        refine jr_iload_5 C d_X_admitted_36 ?_
        refine kX_cell C ⟨Nat.le_of_ble_eq_true rfl, Nat.le_of_ble_eq_true rfl⟩ (Nat.le_of_ble_eq_true rfl) d_X_admitted_38 ?_
        refine aX_havers C (by omega) d_X_admitted_41 ?_
        refine jr_lor C d_X_admitted_42 ?_
        refine jr_lstore_3 C d_X_admitted_43 rfl ?_
        refine go _ _ h ?_ (fun r hr => ?_)
        · rw [bx_iff.mpr ⟨v, by omega, h2⟩]
          rfl
        · rw [tb_or, hs r hr, hhav f v r hf h hr]
          apply bl_eq
          rw [Bool.or_eq_true, bx_iff, bx_iff, bx_iff]
          constructor
          · rintro (⟨w, g1, g2, g3⟩ | g)
            · exact ⟨w, by omega, g2, g3⟩
            · exact ⟨v, by omega, h2, g⟩
          · rintro ⟨w, g1, g2, g3⟩
            by_cases e : w = v
            · subst e
              exact Or.inr g3
            · exact Or.inl ⟨w, by omega, g2, g3⟩
theorem cX_hitsLeft (a : ab_T) (hx : rx_r a σ) : fx_ML l D cl_s (ty_X k) (w_X q k) y_X_hitsLeft (k_X_hitsLeft :: tb_l) rm_X_hitsLeft [.ref (q 0)] σ (fun z u => u = σ ∧ ∀ r, r < 64 → tb_b z r = bx_b (a_left a r)) := by
  have hhit := hx.2.2.2.2.2.2
  refine fx_enterL (by decide +kernel) [some (.ref (q 0)), none, none, none] rfl (Nat.le_of_ble_eq_true rfl) (Nat.le_of_ble_eq_true rfl) (fun X C hR => ?_)
  refine jr_aload_0 C d_X_hitsLeft_0 ?_
  refine gX_hits C d_X_hitsLeft_1 ?_
  refine jr_lstore_1 C d_X_hitsLeft_4 rfl ?_
  refine jr_iconst (v := nI 0) C d_X_hitsLeft_5 (by decide) ?_
  refine jr_istore_3 C d_X_hitsLeft_6 rfl ?_
  have L := lp_up (P := fun f => ∀ s : Int64, (∀ r, r < 64 → tb_b s r = bx_b (a_hit a r = true ∧ ∀ g, g < f → (∃ v, v < 100 ∧ a_cho a g v = true) → ∃ v, v < 100 ∧ a_cho a g v = true ∧ a_has a r g v)) → fx_J X (w_X q k σ) 7 [some (.ref (q 0)), some (.long s), none, some (.int (nI f))] []) 6 (fun f hf ih s hs => ?_)
  · refine L 0 (by omega) (x_hits σ) (fun r hr => ?_)
    rw [hhit r hr]
    exact (bx_eq ⟨fun g => g.1, fun g => ⟨g, fun g hg => by omega⟩⟩).symm
  · refine jr_iload_3 C d_X_hitsLeft_7 ?_
    refine jr_bipush (v := nI 6) C d_X_hitsLeft_8 (by decide) ?_
    refine jr_N_ge (tgt := 27) C d_X_hitsLeft_10 (by decide) (by omega) (by omega) (fun h => ?_) (fun h => ?_)
    · refine jr_lload_1 C d_X_hitsLeft_27 ?_
      exact hR _ _ _ _ d_X_hitsLeft_28 ⟨rfl, fun r hr => by rw [hs r hr, show f = 6 by omega]; rfl⟩
    · refine jr_lload_1 C d_X_hitsLeft_13 ?_
      refine jr_aload_0 C d_X_hitsLeft_14 ?_
      refine jr_iload_3 C d_X_hitsLeft_15 ?_
      refine qX_X_admitted C (cX_admitted l D q k σ a hx f h) rfl ⟨Nat.le_of_ble_eq_true rfl, Nat.le_of_ble_eq_true rfl⟩ (Nat.le_of_ble_eq_true rfl) d_X_hitsLeft_16 (fx_p (fun z hz => ?_))
      refine jr_land C d_X_hitsLeft_19 ?_
      refine jr_lstore_1 C d_X_hitsLeft_20 rfl ?_
      refine jr_incN_3 C d_X_hitsLeft_21 rfl ?_
      refine jr_goto (tgt := 7) C d_X_hitsLeft_24 (by decide) ?_
      refine ih h _ (fun r hr => ?_)
      rw [tb_and, hs r hr, hz r hr]
      apply bl_eq
      rw [Bool.and_eq_true, bx_iff, bx_iff, bx_iff]
      constructor
      · rintro ⟨⟨g1, g2⟩, g3⟩
        refine ⟨g1, fun g hg => ?_⟩
        by_cases e : g = f
        · rw [e]; exact g3
        · exact g2 g (by omega)
      · rintro ⟨g1, g2⟩
        exact ⟨⟨g1, fun g hg => g2 g (by omega)⟩, g2 f (by omega)⟩
end AX
end
section
theorem px_ix {f v f2 v2 : Nat} (h1 : v < 100) (h2 : v2 < 100) (h : f2 * 100 + v2 = f * 100 + v) : f2 = f ∧ v2 = v := by omega
theorem px_val {a : ab_T} {σ : sx_T} {r f v : Nat} {h : Nat → Int64} (hw : a_wf a) (hx : rx_r a σ) (hr : r ≤ a_n a) (hv : v < 100)
    (hh : ∀ i s, tb_b (h i) s = (tb_b (x_hav σ i) s || (bx_b (∃ c, c < 100 ∧ i = f * 100 + c ∧ ab_o (a_par a f) v c) && tb_b (tb_1 r) s))) :
    rx_r (a_val a r f v) (xs_hav (xs_held (xs_hold σ (vp_updL (x_hold σ) (f * 100 + v) (x_hold σ (f * 100 + v) ||| tb_1 r))) (nI (a_v a + 1))) h) := by
  have hr64 : r < 64 := by have := hw.1; omega
  obtain ⟨h1, h2, h3, h4, h5, h6, h7⟩ := hx
  refine ⟨h1, rfl, fun f2 v2 r2 hf2 hv2 hr2 => ?_, fun f2 v2 r2 hf2 hv2 hr2 => ?_, h5, h6, h7⟩
  · show tb_b (vp_updL (x_hold σ) (f * 100 + v) (x_hold σ (f * 100 + v) ||| tb_1 r) (f2 * 100 + v2)) r2 = if r2 = r ∧ f2 = f ∧ v2 = v then true else a_own a r2 f2 v2
    by_cases e : f2 * 100 + v2 = f * 100 + v
    · obtain ⟨rfl, rfl⟩ := px_ix hv hv2 e
      rw [pk_uLs, tb_set hr64, h3 f2 v2 r2 hf2 hv2 hr2]
      by_cases e2 : r2 = r
      · subst e2; simp
      · simp [e2]
    · rw [pk_uLn e, h3 f2 v2 r2 hf2 hv2 hr2, if_neg (fun q => e (by rw [q.2.1, q.2.2]))]
  · show tb_b (h (f2 * 100 + v2)) r2 = _
    rw [hh, h4 f2 v2 r2 hf2 hv2 hr2, tb_one hr64]
    apply bl_eq
    rw [Bool.or_eq_true, Bool.and_eq_true, bx_iff, bx_iff, bx_iff, decide_eq_true_eq]
    constructor
    · rintro (⟨w, g1, g2, g3⟩ | ⟨⟨c, g1, g2, g3⟩, g4⟩)
      · exact ⟨w, g1, by show (if r2 = r ∧ f2 = f ∧ w = v then true else a_own a r2 f2 w) = true; rw [g2]; split <;> rfl, g3⟩
      · obtain ⟨rfl, rfl⟩ := px_ix g1 hv2 g2
        exact ⟨v, hv, by show (if r2 = r ∧ f2 = f2 ∧ v = v then true else a_own a r2 f2 v) = true; rw [if_pos ⟨g4, rfl, rfl⟩], g3⟩
    · rintro ⟨w, g1, g2, g3⟩
      have g2 : (if r2 = r ∧ f2 = f ∧ w = v then true else a_own a r2 f2 w) = true := g2
      have g3 : ab_o (a_par a f2) w v2 := g3
      by_cases e : r2 = r ∧ f2 = f ∧ w = v
      · obtain ⟨rfl, rfl, rfl⟩ := e
        exact Or.inr ⟨⟨v2, hv2, rfl, g3⟩, rfl⟩
      · rw [if_neg e] at g2
        exact Or.inl ⟨w, g1, g2, g3⟩
theorem px_gon {a : ab_T} {σ : sx_T} {r f v : Nat} {h : Nat → Int64} (hw : a_wf a) (hx : rx_r a σ) (hr : r ≤ a_n a) (hv : v < 100)
    (hh : ∀ c s, c < 100 → tb_b (h (f * 100 + c)) s = bx_b (∃ w, w < 100 ∧ tb_b (vp_updL (x_hold σ) (f * 100 + v) (x_hold σ (f * 100 + v) &&& (tb_1 r ^^^ (-1))) (f * 100 + w)) s = true ∧ ab_o (a_par a f) w c))
    (ho : ∀ i s, (¬ ∃ c, c < 100 ∧ i = f * 100 + c) → tb_b (h i) s = tb_b (x_hav σ i) s) :
    rx_r (a_gon a r f v) (xs_hav (xs_held (xs_hold σ (vp_updL (x_hold σ) (f * 100 + v) (x_hold σ (f * 100 + v) &&& (tb_1 r ^^^ (-1))))) (nI (a_v a - 1))) h) := by
  have hr64 : r < 64 := by have := hw.1; omega
  obtain ⟨h1, h2, h3, h4, h5, h6, h7⟩ := hx
  have hold : ∀ f2 v2 r2, f2 < 6 → v2 < 100 → r2 < 64 → tb_b (vp_updL (x_hold σ) (f * 100 + v) (x_hold σ (f * 100 + v) &&& (tb_1 r ^^^ (-1))) (f2 * 100 + v2)) r2 = if r2 = r ∧ f2 = f ∧ v2 = v then false else a_own a r2 f2 v2 := by
    intro f2 v2 r2 hf2 hv2 hr2
    by_cases e : f2 * 100 + v2 = f * 100 + v
    · obtain ⟨rfl, rfl⟩ := px_ix hv hv2 e
      rw [pk_uLs, tb_clr hr64 hr2, h3 f2 v2 r2 hf2 hv2 hr2]
      by_cases e2 : r2 = r
      · subst e2; simp
      · simp [e2]
    · rw [pk_uLn e, h3 f2 v2 r2 hf2 hv2 hr2, if_neg (fun q => e (by rw [q.2.1, q.2.2]))]
  refine ⟨h1, rfl, hold, fun f2 v2 r2 hf2 hv2 hr2 => ?_, h5, h6, h7⟩
  show tb_b (h (f2 * 100 + v2)) r2 = _
  by_cases e : f2 = f
  · subst e
    rw [hh v2 r2 hv2]
    refine bx_congr ⟨fun ⟨w, g1, g2, g3⟩ => ⟨w, g1, ?_, g3⟩, fun ⟨w, g1, g2, g3⟩ => ⟨w, g1, ?_, g3⟩⟩
    · rw [hold f2 w r2 hf2 g1 hr2] at g2
      exact g2
    · rw [hold f2 w r2 hf2 g1 hr2]
      exact g2
  · rw [ho _ _ (fun ⟨c, g1, g2⟩ => e (px_ix g1 hv2 g2).1), h4 f2 v2 r2 hf2 hv2 hr2]
    refine bx_congr ⟨fun ⟨w, g1, g2, g3⟩ => ⟨w, g1, ?_, g3⟩, fun ⟨w, g1, g2, g3⟩ => ⟨w, g1, ?_, g3⟩⟩
    · show (if r2 = r ∧ f2 = f ∧ w = v then false else a_own a r2 f2 w) = true
      rw [if_neg (fun q => e q.2.1)]
      exact g2
    · have g2 : (if r2 = r ∧ f2 = f ∧ w = v then false else a_own a r2 f2 w) = true := g2
      rw [if_neg (fun q => e q.2.1)] at g2
      exact g2
theorem px_nar {a : ab_T} {σ : sx_T} {f v b : Nat} {h : Nat → Int64} (hx : rx_r a σ) (hv : v < 100)
    (hh : ∀ c s, c < 100 → tb_b (h (f * 100 + c)) s = bx_b (∃ w, w < 100 ∧ tb_b (x_hold σ (f * 100 + w)) s = true ∧ ab_o (a_par (a_nar a f v b) f) w c))
    (ho : ∀ i s, (¬ ∃ c, c < 100 ∧ i = f * 100 + c) → tb_b (h i) s = tb_b (x_hav σ i) s) :
    rx_r (a_nar a f v b) (xs_hav (xs_bro σ (upd (x_bro σ) (f * 100 + v) (en_p b))) h) := by
  obtain ⟨h1, h2, h3, h4, h5, h6, h7⟩ := hx
  refine ⟨h1, h2, h3, fun f2 v2 r2 hf2 hv2 hr2 => ?_, fun f2 v2 hf2 hv2 => ?_, h6, h7⟩
  · show tb_b (h (f2 * 100 + v2)) r2 = _
    by_cases e : f2 = f
    · subst e
      rw [hh v2 r2 hv2]
      refine bx_congr ⟨fun ⟨w, g1, g2, g3⟩ => ⟨w, g1, ?_, g3⟩, fun ⟨w, g1, g2, g3⟩ => ⟨w, g1, ?_, g3⟩⟩
      · rw [h3 f2 w r2 hf2 g1 hr2] at g2
        exact g2
      · rw [h3 f2 w r2 hf2 g1 hr2]
        exact g2
    · rw [ho _ _ (fun ⟨c, g1, g2⟩ => e (px_ix g1 hv2 g2).1), h4 f2 v2 r2 hf2 hv2 hr2]
      have ep : a_par (a_nar a f v b) f2 = a_par a f2 := funext (fun u => if_neg (fun q => e q.1))
      refine bx_congr ⟨fun ⟨w, g1, g2, g3⟩ => ⟨w, g1, g2, ?_⟩, fun ⟨w, g1, g2, g3⟩ => ⟨w, g1, g2, ?_⟩⟩
      · rw [ep]; exact g3
      · rw [ep] at g3; exact g3
  · show upd (x_bro σ) (f * 100 + v) (en_p b) (f2 * 100 + v2) = en_p (if f2 = f ∧ v2 = v then b else a_par a f2 v2)
    by_cases e : f2 * 100 + v2 = f * 100 + v
    · obtain ⟨rfl, rfl⟩ := px_ix hv hv2 e
      rw [pk_us, if_pos ⟨rfl, rfl⟩]
    · rw [pk_un e, h5 f2 v2 hf2 hv2, if_neg (fun q => e (by rw [q.1, q.2]))]
theorem px_hit {a : ab_T} {σ : sx_T} {r : Nat} {z : Int64} {on : Bool} (hx : rx_r a σ) (hz : ∀ s, s < 64 → tb_b z s = if s = r then on else tb_b (x_hits σ) s) : rx_r (a_hiS a r on) (xs_hits σ z) := by
  obtain ⟨h1, h2, h3, h4, h5, h6, h7⟩ := hx
  refine ⟨h1, h2, h3, h4, h5, h6, fun s hs => ?_⟩
  show tb_b z s = if s = r then on else a_hit a s
  rw [hz s hs, h7 s hs]
theorem px_cho {a : ab_T} {σ : sx_T} {f v : Nat} (hx : rx_r a σ) (hv : v < 100) : rx_r (a_chS a f v) (xs_cho σ (upd (x_cho σ) (f * 100 + v) (b01 (!a_cho a f v)))) := by
  obtain ⟨h1, h2, h3, h4, h5, h6, h7⟩ := hx
  refine ⟨h1, h2, h3, h4, h5, fun f2 v2 hf2 hv2 => ?_, h7⟩
  show upd (x_cho σ) (f * 100 + v) (b01 (!a_cho a f v)) (f2 * 100 + v2) = b01 (if f2 = f ∧ v2 = v then !a_cho a f2 v2 else a_cho a f2 v2)
  by_cases e : f2 * 100 + v2 = f * 100 + v
  · obtain ⟨rfl, rfl⟩ := px_ix hv hv2 e
    rw [pk_us, if_pos ⟨rfl, rfl⟩]
  · rw [pk_un e, h6 f2 v2 hf2 hv2, if_neg (fun q => e (by rw [q.1, q.2]))]
/-- what stays a state -/
theorem wf_rec {a : ab_T} (hw : a_wf a) (h : a_n a < 60) : a_wf (a_rec a) := by
  obtain ⟨h1, h2, h3, h4, h5⟩ := hw
  exact ⟨by show a_n a + 1 ≤ 60; omega, h2, fun r f v q => ⟨(h3 r f v q).1, by have := (h3 r f v q).2; show r ≤ a_n a + 1; omega⟩, fun r q => ⟨(h4 r q).1, by have := (h4 r q).2; show r ≤ a_n a + 1; omega⟩, h5⟩
theorem wf_val {a : ab_T} (hw : a_wf a) {r f v : Nat} (hr1 : 1 ≤ r) (hr : r ≤ a_n a) (h : a_v a < 400) : a_wf (a_val a r f v) := by
  obtain ⟨h1, h2, h3, h4, h5⟩ := hw
  refine ⟨h1, by show a_v a + 1 ≤ 400; omega, fun r2 f2 v2 q => ?_, h4, h5⟩
  have q : (if r2 = r ∧ f2 = f ∧ v2 = v then true else a_own a r2 f2 v2) = true := q
  by_cases e : r2 = r ∧ f2 = f ∧ v2 = v
  · rw [e.1]; exact ⟨hr1, hr⟩
  · rw [if_neg e] at q; exact h3 r2 f2 v2 q
theorem wf_gon {a : ab_T} (hw : a_wf a) {r f v : Nat} : a_wf (a_gon a r f v) := by
  obtain ⟨h1, h2, h3, h4, h5⟩ := hw
  refine ⟨h1, by show a_v a - 1 ≤ 400; omega, fun r2 f2 v2 q => ?_, h4, h5⟩
  have q : (if r2 = r ∧ f2 = f ∧ v2 = v then false else a_own a r2 f2 v2) = true := q
  by_cases e : r2 = r ∧ f2 = f ∧ v2 = v
  · rw [if_pos e] at q; exact absurd q (by decide)
  · rw [if_neg e] at q; exact h3 r2 f2 v2 q
theorem wf_nar {a : ab_T} (hw : a_wf a) {f v b : Nat} (hv : v < 100) (hb : b ≤ 100) (hr : b < 100 → ¬ ab_o (a_par a f) b v) : a_wf (a_nar a f v b) := by
  obtain ⟨h1, h2, h3, h4, h5⟩ := hw
  refine ⟨h1, h2, h3, h4, fun f2 => ?_⟩
  by_cases e : f2 = f
  · subst e
    have : a_par (a_nar a f2 v b) f2 = fun u => if u = v then b else a_par a f2 u := funext (fun u => by
      show (if f2 = f2 ∧ u = v then b else a_par a f2 u) = if u = v then b else a_par a f2 u
      simp)
    rw [this]
    exact tr_set (h5 f2) hv hb hr
  · have : a_par (a_nar a f v b) f2 = a_par a f2 := funext (fun u => if_neg (fun q => e q.1))
    rw [this]
    exact h5 f2
theorem wf_hiS {a : ab_T} (hw : a_wf a) {r : Nat} {on : Bool} (hr1 : 1 ≤ r) (hr : r ≤ a_n a) : a_wf (a_hiS a r on) := by
  obtain ⟨h1, h2, h3, h4, h5⟩ := hw
  refine ⟨h1, h2, h3, fun r2 q => ?_, h5⟩
  have q : (if r2 = r then on else a_hit a r2) = true := q
  by_cases e : r2 = r
  · rw [e]; exact ⟨hr1, hr⟩
  · rw [if_neg e] at q; exact h4 r2 q
theorem wf_chS {a : ab_T} (hw : a_wf a) {f v : Nat} : a_wf (a_chS a f v) := hw
end
section
section PX
variable (l : Launch) (D : va_G) (q : Nat → Nat) (k : Nat → ClassId) (σ : sx_T) (a : ab_T) (hw : a_wf a) (hx : rx_r a σ)
theorem cX_countValues (hx : rx_r a σ) (f : Nat) (hf : f < 6) : fx_MV l D cl_s (ty_X k) (w_X q k) y_X_countValues (k_X_countValues :: tb_l) rm_X_countValues [.ref (q 0), .int (nI f)] σ (fun u => ∃ c, u = xs_cnt σ c ∧ ∀ v, v < 100 → c v = nI (sp_cnt a f v)) := by
  refine fx_enterV (by decide +kernel) [some (.ref (q 0)), some (.int (nI f)), none, none, none] rfl (Nat.le_of_ble_eq_true rfl) (Nat.le_of_ble_eq_true rfl) (fun X C hR => ?_)
  refine jr_aload_0 C d_X_countValues_0 ?_
  refine qX_X_hitsLeft C (cX_hitsLeft l D q k σ a hx) rfl ⟨Nat.le_of_ble_eq_true rfl, Nat.le_of_ble_eq_true rfl⟩ (Nat.le_of_ble_eq_true rfl) d_X_countValues_1 (fx_p (fun s hs => ?_))
  refine jr_lstore_2 C d_X_countValues_4 rfl ?_
  refine jr_iconst (v := nI 0) C d_X_countValues_5 (by decide) ?_
  refine jr_istore_4 C d_X_countValues_6 rfl ?_
  have L := lp_up (P := fun v => ∀ c : Nat → Int32, (∀ w, w < v → c w = nI (sp_cnt a f w)) → fx_J X (w_X q k (xs_cnt σ c)) 8 [some (.ref (q 0)), some (.int (nI f)), some (.long s), none, some (.int (nI v))] []) 100 (fun v hv ih c hc => ?_)
  · exact L 0 (by omega) (x_cnt σ) (fun w h => by omega)
  · refine jr_iload_4 C d_X_countValues_8 ?_
    refine jr_bipush (v := nI 100) C d_X_countValues_10 (by decide) ?_
    refine jr_N_ge (tgt := 44) C d_X_countValues_12 (by decide) (by omega) (by omega) (fun h => ?_) (fun h => ?_)
    · exact hR _ _ _ d_X_countValues_44 ⟨c, rfl, fun w hw => hc w (by omega)⟩
    · refine jr_aload_0 C d_X_countValues_15 ?_
      refine gX_counts C d_X_countValues_16 ?_
      refine jr_iload_4 C d_X_countValues_19 ?_
      refine jr_lload_2 C d_X_countValues_21 ?_
      refine jr_aload_0 C d_X_countValues_22 ?_
      refine gX_havers C d_X_countValues_23 ?_
      refine jr_iload_1 C d_X_countValues_26 ?_
      refine jr_iload_4 C d_X_countValues_27 ?_
      refine kX_cell C ⟨Nat.le_of_ble_eq_true rfl, Nat.le_of_ble_eq_true rfl⟩ (Nat.le_of_ble_eq_true rfl) d_X_countValues_29 ?_
      refine aX_havers C (by omega) d_X_countValues_32 ?_
      refine jr_land C d_X_countValues_33 ?_
      refine qX_JL_bitCount C (cJ_bitCount l D (ty_X k) (w_X q k) (xs_cnt σ c) (s &&& x_hav σ (f * 100 + v))) ⟨Nat.le_of_ble_eq_true rfl, Nat.le_of_ble_eq_true rfl⟩ (Nat.le_of_ble_eq_true rfl) d_X_countValues_34 (fx_p (fun z hz => ?_))
      rw [hz]
      refine sX_counts C (by omega) d_X_countValues_37 ?_
      refine jr_incN_4 C d_X_countValues_38 rfl ?_
      refine jr_goto (tgt := 8) C d_X_countValues_41 (by decide) ?_
      refine ih h _ (fun w hw => ?_)
      by_cases e : w = v
      · subst e
        rw [show upd c w (nI (ct_n (tb_b (s &&& x_hav σ (f * 100 + w))) 64)) w = nI (ct_n (tb_b (s &&& x_hav σ (f * 100 + w))) 64) from pk_us]
        congr 1
        refine ct_congr (fun r hr => ?_)
        rw [tb_and, hs r hr, hx.2.2.2.1 f w r hf h hr]
        apply bl_eq
        rw [Bool.and_eq_true, bx_iff, bx_iff, bx_iff]
      · rw [show upd c v (nI (ct_n (tb_b (s &&& x_hav σ (f * 100 + v))) 64)) w = c w from pk_un e]
        exact hc w (by omega)
theorem cX_record (hw : a_wf a) (hx : rx_r a σ) : fx_MI l D cl_s (ty_X k) (w_X q k) y_X_record (k_X_record :: tb_l) rm_X_record [.ref (q 0)] σ (fun r u => r = (sp_record a).1 ∧ rx_r (sp_record a).2 u) := by
  have hn := hw.1
  refine fx_enterI (by decide +kernel) [some (.ref (q 0))] rfl (Nat.le_of_ble_eq_true rfl) (Nat.le_of_ble_eq_true rfl) (fun X C hR => ?_)
  refine jr_aload_0 C d_X_record_0 ?_
  refine gX_records C d_X_record_1 ?_
  refine jr_eqi hx.1 ?_
  refine jr_bipush (v := nI 60) C d_X_record_4 (by decide) ?_
  refine jr_N_lt (tgt := 11) C d_X_record_6 (by decide) (by omega) (by omega) (fun h => ?_) (fun h => ?_)
  · refine jr_aload_0 C d_X_record_11 ?_
    refine jr_dup C d_X_record_12 rfl ?_
    refine gX_records C d_X_record_13 ?_
    refine jr_eqi hx.1 ?_
    refine jr_iconst (v := nI 1) C d_X_record_16 (by decide) ?_
    refine jr_iaddN C d_X_record_17 ?_
    refine pX_records C d_X_record_18 ?_
    refine jr_aload_0 C d_X_record_21 ?_
    refine gX_records C d_X_record_22 ?_
    unfold sp_record at hR
    rw [if_neg (by omega)] at hR
    obtain ⟨h1, h2, h3, h4, h5, h6, h7⟩ := hx
    exact hR _ _ _ _ d_X_record_25 rfl ⟨rfl, ⟨rfl, h2, h3, h4, h5, h6, h7⟩⟩
  · refine jr_iconst (v := nI 0) C d_X_record_9 (by decide) ?_
    unfold sp_record at hR
    rw [if_pos (by omega)] at hR
    exact hR _ _ _ _ d_X_record_10 rfl ⟨rfl, hx⟩
theorem cX_hit (hw : a_wf a) (hx : rx_r a σ) (x : Int32) (on : Bool) : fx_MI l D cl_s (ty_X k) (w_X q k) y_X_hit (k_X_hit :: tb_l) rm_X_hit [.ref (q 0), .int x, .int (b01 on)] σ (fun r u => r = (sp_hit a x on).1 ∧ rx_r (sp_hit a x on).2 u) := by
  have hn := hw.1
  refine fx_enterI (by decide +kernel) [some (.ref (q 0)), some (.int x), some (.int (b01 on))] rfl (Nat.le_of_ble_eq_true rfl) (Nat.le_of_ble_eq_true rfl) (fun X C hR => ?_)
  refine jr_aload_0 C d_X_hit_0 ?_
  refine jr_iload_1 C d_X_hit_1 ?_
  refine qX_X_isRecord C (cX_isRecord l D q k σ x (a_n a) hn hx.1) rfl ⟨Nat.le_of_ble_eq_true rfl, Nat.le_of_ble_eq_true rfl⟩ (Nat.le_of_ble_eq_true rfl) d_X_hit_2 (fx_p (fun z hz => ?_))
  unfold sp_hit at hR
  rcases hz with ⟨rfl, r, hr1, hr2, rfl⟩ | ⟨rfl, hz⟩
  · refine jr_if_ne (tgt := 10) C d_X_hit_5 (by decide) (fun h => ?_) (fun h => ?_)
    · rw [rc_in hr1 hr2 (by omega)] at hR
      have fin : ∀ z : Int64, (∀ s, s < 64 → tb_b z s = if s = r then on else tb_b (x_hits σ) s) → fx_J X (w_X q k (xs_hits σ z)) 47 [some (.ref (q 0)), some (.int (nI r)), some (.int (b01 on))] [] := by
        intro z hz
        refine jr_aload_0 C d_X_hit_47 ?_
        refine gX_hits C d_X_hit_48 ?_
        refine qX_JL_bitCount C (cJ_bitCount l D (ty_X k) (w_X q k) (xs_hits σ z) z) ⟨Nat.le_of_ble_eq_true rfl, Nat.le_of_ble_eq_true rfl⟩ (Nat.le_of_ble_eq_true rfl) d_X_hit_51 (fx_p (fun c hc => ?_))
        rw [hc]
        exact hR _ _ _ _ d_X_hit_54 rfl ⟨by
          show nI _ = nI _
          congr 1
          refine ct_congr (fun s hs => ?_)
          rw [hz s hs]
          show _ = if s = r then on else a_hit a s
          rw [hx.2.2.2.2.2.2 s hs], px_hit hx hz⟩
      refine jr_iload_2 C d_X_hit_10 ?_
      refine jr_if_eq (tgt := 30) C d_X_hit_11 (by decide) (fun h2 => ?_) (fun h2 => ?_)
      · refine jr_aload_0 C d_X_hit_30 ?_
        refine jr_dup C d_X_hit_31 rfl ?_
        refine gX_hits C d_X_hit_32 ?_
        refine jr_iload_1 C d_X_hit_35 ?_
        refine kX_bit C ⟨Nat.le_of_ble_eq_true rfl, Nat.le_of_ble_eq_true rfl⟩ (Nat.le_of_ble_eq_true rfl) d_X_hit_36 ?_
        refine jr_ldc2 C d_X_hit_39 (List.mem_cons_of_mem _ cl_X_73) ?_
        refine jr_lxor C d_X_hit_42 ?_
        refine jr_land C d_X_hit_43 ?_
        refine pX_hits C d_X_hit_44 ?_
        rw [b01_eq] at h2
        refine fin _ (fun s hs => ?_)
        rw [show x_hits σ &&& (tb_1 r ^^^ (-1)) = x_hits σ &&& (tb_1 r ^^^ (-1)) from rfl, tb_clr (by omega) hs, h2]
        by_cases e : s = r
        · simp [e]
        · simp [e]
      · refine jr_aload_0 C d_X_hit_14 ?_
        refine jr_dup C d_X_hit_15 rfl ?_
        refine gX_hits C d_X_hit_16 ?_
        refine jr_iload_1 C d_X_hit_19 ?_
        refine kX_bit C ⟨Nat.le_of_ble_eq_true rfl, Nat.le_of_ble_eq_true rfl⟩ (Nat.le_of_ble_eq_true rfl) d_X_hit_20 ?_
        refine jr_lor C d_X_hit_23 ?_
        refine pX_hits C d_X_hit_24 ?_
        refine jr_goto (tgt := 47) C d_X_hit_27 (by decide) ?_
        rw [b01_ne] at h2
        refine fin _ (fun s hs => ?_)
        rw [tb_set (by omega), h2]
        by_cases e : s = r
        · simp [e]
        · simp [e]
    · exact absurd h (by decide)
  · refine jr_if_ne (tgt := 10) C d_X_hit_5 (by decide) (fun h => ?_) (fun h => ?_)
    · exact absurd nI_0 h
    · refine jr_iconst (v := -1) C d_X_hit_8 (by decide) ?_
      rw [rc_no (by omega) hz] at hR
      exact hR _ _ _ _ d_X_hit_9 rfl ⟨rfl, hx⟩
theorem cX_choose (hx : rx_r a σ) (y z : Int32) : fx_MI l D cl_s (ty_X k) (w_X q k) y_X_choose (k_X_choose :: tb_l) rm_X_choose [.ref (q 0), .int y, .int z] σ (fun r u => r = (sp_choose a y z).1 ∧ rx_r (sp_choose a y z).2 u) := by
  refine fx_enterI (by decide +kernel) [some (.ref (q 0)), some (.int y), some (.int z)] rfl (Nat.le_of_ble_eq_true rfl) (Nat.le_of_ble_eq_true rfl) (fun X C hR => ?_)
  unfold sp_choose at hR
  refine jr_iload_1 C d_X_choose_0 ?_
  refine qX_X_isFacet C (cX_isFacet l D (ty_X k) (w_X q k) σ y) ⟨Nat.le_of_ble_eq_true rfl, Nat.le_of_ble_eq_true rfl⟩ (Nat.le_of_ble_eq_true rfl) d_X_choose_1 (fx_p (fun z1 h1 => ?_))
  rcases h1 with ⟨rfl, f, hf, rfl⟩ | ⟨rfl, h1⟩
  · refine jr_if_eq (tgt := 14) C d_X_choose_4 (by decide) (fun e1 => ?_) (fun e1 => ?_)
    · exact absurd e1 (by decide)
    · refine jr_iload_2 C d_X_choose_7 ?_
      refine qX_X_isValue C (cX_isValue l D (ty_X k) (w_X q k) σ z) ⟨Nat.le_of_ble_eq_true rfl, Nat.le_of_ble_eq_true rfl⟩ (Nat.le_of_ble_eq_true rfl) d_X_choose_8 (fx_p (fun z2 h2 => ?_))
      rcases h2 with ⟨rfl, v, hv, rfl⟩ | ⟨rfl, h2⟩
      · rw [ix_in hf (by omega), ix_in hv (by omega)] at hR
        have fin : ∀ b, b = b01 (!a_cho a f v) → fx_J X (w_X q k σ) 43 [some (.ref (q 0)), some (.int (nI f)), some (.int (nI v))] [.int b, .int (nI (f * 100 + v)), .ref (q 4)] := by
          intro b hb
          rw [hb]
          refine sX_chosen C (by omega) (b01_or _) d_X_choose_43 ?_
          refine jr_aload_0 C d_X_choose_44 ?_
          refine qX_X_hitsLeft C (cX_hitsLeft l D q k _ (a_chS a f v) (px_cho hx hv)) rfl ⟨Nat.le_of_ble_eq_true rfl, Nat.le_of_ble_eq_true rfl⟩ (Nat.le_of_ble_eq_true rfl) d_X_choose_45 (fx_p (fun s hs => ?_))
          refine qX_JL_bitCount C (cJ_bitCount l D (ty_X k) (w_X q k) _ s) ⟨Nat.le_of_ble_eq_true rfl, Nat.le_of_ble_eq_true rfl⟩ (Nat.le_of_ble_eq_true rfl) d_X_choose_48 (fx_p (fun c hc => ?_))
          rw [hc]
          exact hR _ _ _ _ d_X_choose_51 rfl ⟨by
            show nI _ = nI _
            congr 1
            exact ct_congr hs, px_cho hx hv⟩
        refine jr_if_ne (tgt := 16) C d_X_choose_11 (by decide) (fun e2 => ?_) (fun e2 => ?_)
        · refine jr_aload_0 C d_X_choose_16 ?_
          refine gX_chosen C d_X_choose_17 ?_
          refine jr_iload_1 C d_X_choose_20 ?_
          refine jr_iload_2 C d_X_choose_21 ?_
          refine kX_cell C ⟨Nat.le_of_ble_eq_true rfl, Nat.le_of_ble_eq_true rfl⟩ (Nat.le_of_ble_eq_true rfl) d_X_choose_22 ?_
          refine jr_aload_0 C d_X_choose_25 ?_
          refine gX_chosen C d_X_choose_26 ?_
          refine jr_iload_1 C d_X_choose_29 ?_
          refine jr_iload_2 C d_X_choose_30 ?_
          refine kX_cell C ⟨Nat.le_of_ble_eq_true rfl, Nat.le_of_ble_eq_true rfl⟩ (Nat.le_of_ble_eq_true rfl) d_X_choose_31 ?_
          refine aX_chosen C (by omega) d_X_choose_34 ?_
          refine jr_eqi (hx.2.2.2.2.2.1 f v hf hv) ?_
          refine jr_if_ne (tgt := 42) C d_X_choose_35 (by decide) (fun e3 => ?_) (fun e3 => ?_)
          · refine jr_iconst (v := nI 0) C d_X_choose_42 (by decide) ?_
            rw [b01_ne] at e3
            exact fin _ (by rw [e3]; rfl)
          · refine jr_iconst (v := nI 1) C d_X_choose_38 (by decide) ?_
            refine jr_goto (tgt := 43) C d_X_choose_39 (by decide) ?_
            rw [b01_eq] at e3
            exact fin _ (by rw [e3]; rfl)
        · exact absurd e2 (by decide)
      · refine jr_if_ne (tgt := 16) C d_X_choose_11 (by decide) (fun e2 => ?_) (fun e2 => ?_)
        · exact absurd nI_0 e2
        · refine jr_iconst (v := -1) C d_X_choose_14 (by decide) ?_
          rw [ix_in hf (by omega), ix_no (by omega) h2] at hR
          exact hR _ _ _ _ d_X_choose_15 rfl ⟨rfl, hx⟩
  · refine jr_if_eq (tgt := 14) C d_X_choose_4 (by decide) (fun e1 => ?_) (fun e1 => ?_)
    · refine jr_iconst (v := -1) C d_X_choose_14 (by decide) ?_
      rw [ix_no (by omega) h1] at hR
      exact hR _ _ _ _ d_X_choose_15 rfl ⟨rfl, hx⟩
    · exact absurd nI_0 e1
end PX
end
section
theorem mm_lo (x : Int32) : ∃ j : Nat, j < 2 ^ 31 ∧ (if x < nI 0 then nI 0 else x) = nI j ∧ x.toInt ≤ (j : Int) ∧ ∀ v : Nat, x.toInt ≤ (v : Int) → j ≤ v := by
  by_cases h : x < nI 0
  · rw [if_pos h]
    rw [Int32.lt_iff_toInt_lt, nI_toInt (by omega)] at h
    exact ⟨0, by omega, rfl, by omega, fun v _ => by omega⟩
  · rw [if_neg h]
    rw [Int32.lt_iff_toInt_lt, nI_toInt (by omega)] at h
    obtain ⟨j, hj, rfl⟩ := nI_of (x := x) (by rw [Int32.lt_iff_toInt_lt, Int32.toInt_zero]; omega)
    rw [nI_toInt hj]
    exact ⟨j, hj, rfl, by omega, fun v hv => by omega⟩
theorem mm_hi (x : Int32) (v : Nat) : ((v : Int) ≤ (if nI 99 < x then nI 99 else x).toInt) ↔ v < 100 ∧ (v : Int) ≤ x.toInt := by
  by_cases h : nI 99 < x
  · rw [if_pos h, nI_toInt (by omega)]
    rw [Int32.lt_iff_toInt_lt, nI_toInt (by omega)] at h
    omega
  · rw [if_neg h]
    rw [Int32.lt_iff_toInt_lt, nI_toInt (by omega)] at h
    omega
section PX2
variable (l : Launch) (D : va_G) (q : Nat → Nat) (k : Nat → ClassId) (σ : sx_T) (a : ab_T)
theorem cX_holdersBetween (f : Nat) (hf : f < 6) (lo hi : Int32) : fx_ML l D cl_s (ty_X k) (w_X q k) y_X_holdersBetween (k_X_holdersBetween :: tb_l) rm_X_holdersBetween [.ref (q 0), .int (nI f), .int lo, .int hi] σ (fun z u => u = σ ∧ ∀ r, tb_b z r = bx_b (∃ v : Nat, v < 100 ∧ lo.toInt ≤ (v : Int) ∧ (v : Int) ≤ hi.toInt ∧ tb_b (x_hold σ (f * 100 + v)) r = true)) := by
  refine fx_enterL (by decide +kernel) [some (.ref (q 0)), some (.int (nI f)), some (.int lo), some (.int hi), none, none, none, none] rfl (Nat.le_of_ble_eq_true rfl) (Nat.le_of_ble_eq_true rfl) (fun X C hR => ?_)
  refine jr_iload_3 C d_X_holdersBetween_0 ?_
  refine jr_bipush (v := nI 99) C d_X_holdersBetween_1 (by decide) ?_
  refine kX_min C (Nat.le_of_ble_eq_true rfl) (Nat.le_of_ble_eq_true rfl) d_X_holdersBetween_3 ?_
  refine jr_topi (fun m em => ?_)
  have hm : ∀ v : Nat, ((v : Int) ≤ m.toInt) ↔ v < 100 ∧ (v : Int) ≤ hi.toInt := fun v => by rw [em]; exact mm_hi hi v
  refine jr_istore_4 C d_X_holdersBetween_6 rfl ?_
  refine jr_lconst (v := 0) C d_X_holdersBetween_8 (by decide) ?_
  refine jr_lstore_5 C d_X_holdersBetween_9 rfl ?_
  refine jr_iload_2 C d_X_holdersBetween_11 ?_
  refine jr_iconst (v := nI 0) C d_X_holdersBetween_12 (by decide) ?_
  refine kX_max C (Nat.le_of_ble_eq_true rfl) (Nat.le_of_ble_eq_true rfl) d_X_holdersBetween_13 ?_
  obtain ⟨j0, hj0, ej, h1, h2⟩ := mm_lo lo
  refine jr_eqi ej ?_
  refine jr_istore_7 C d_X_holdersBetween_16 rfl ?_
  have L := lp_ms (P := fun j => ∀ s : Int64, j0 ≤ j → j < 2 ^ 31 → (∀ r, tb_b s r = bx_b (∃ v : Nat, v < j ∧ v < 100 ∧ lo.toInt ≤ (v : Int) ∧ (v : Int) ≤ hi.toInt ∧ tb_b (x_hold σ (f * 100 + v)) r = true)) → fx_J X (w_X q k σ) 18 [some (.ref (q 0)), some (.int (nI f)), some (.int lo), some (.int hi), some (.int m), some (.long s), none, some (.int (nI j))] []) (fun j => 100 - j) (fun j ih s hj hj2 hs => ?_)
  · refine L j0 0 (Nat.le_refl _) hj0 (fun r => ?_)
    rw [tb_0, bx_neg.mpr]
    rintro ⟨v, g1, g2, g3, g4⟩
    have := h2 v g3
    omega
  · refine jr_iload_7 C d_X_holdersBetween_18 ?_
    refine jr_iload_4 C d_X_holdersBetween_20 ?_
    refine jr_icmp_gt (tgt := 47) C d_X_holdersBetween_22 (by decide) (fun h => ?_) (fun h => ?_)
    · rw [Int32.lt_iff_toInt_lt, nI_toInt hj2] at h
      refine jr_lload_5 C d_X_holdersBetween_47 ?_
      exact hR _ _ _ _ d_X_holdersBetween_49 ⟨rfl, fun r => by
        rw [hs r]
        refine bx_congr ⟨fun ⟨v, g1, g⟩ => ⟨v, g⟩, fun ⟨v, g1, g2, g3, g4⟩ => ⟨v, ?_, g1, g2, g3, g4⟩⟩
        have := (hm v).mpr ⟨g1, g3⟩
        omega⟩
    · rw [Int32.lt_iff_toInt_lt, nI_toInt hj2] at h
      obtain ⟨hj3, hj4⟩ := (hm j).mp (by omega)
      refine jr_lload_5 C d_X_holdersBetween_25 ?_
      refine jr_aload_0 C d_X_holdersBetween_27 ?_
      refine gX_holders C d_X_holdersBetween_28 ?_
      refine jr_iload_1 C d_X_holdersBetween_31 ?_
      refine jr_iload_7 C d_X_holdersBetween_32 ?_
      refine kX_cell C ⟨Nat.le_of_ble_eq_true rfl, Nat.le_of_ble_eq_true rfl⟩ (Nat.le_of_ble_eq_true rfl) d_X_holdersBetween_34 ?_
      refine aX_holders C (by omega) d_X_holdersBetween_37 ?_
      refine jr_lor C d_X_holdersBetween_38 ?_
      refine jr_lstore_5 C d_X_holdersBetween_39 rfl ?_
      refine jr_incN_7 C d_X_holdersBetween_41 rfl ?_
      refine jr_goto (tgt := 18) C d_X_holdersBetween_44 (by decide) ?_
      refine ih (j + 1) (by omega) _ (by omega) (by omega) (fun r => ?_)
      rw [tb_or, hs r]
      apply bl_eq
      rw [Bool.or_eq_true, bx_iff, bx_iff]
      constructor
      · rintro (⟨v, g1, g⟩ | g)
        · exact ⟨v, by omega, g⟩
        · exact ⟨j, by omega, hj3, by omega, hj4, g⟩
      · rintro ⟨v, g1, g2, g3, g4, g5⟩
        by_cases e : v = j
        · subst e
          exact Or.inr g5
        · exact Or.inl ⟨v, by omega, g2, g3, g4, g5⟩
theorem cX_count (hx : rx_r a σ) (y z : Int32) : fx_MI l D cl_s (ty_X k) (w_X q k) y_X_count (k_X_count :: tb_l) rm_X_count [.ref (q 0), .int y, .int z] σ (fun r u => r = sp_count a y z ∧ rx_r a u) := by
  refine fx_enterI (by decide +kernel) [some (.ref (q 0)), some (.int y), some (.int z)] rfl (Nat.le_of_ble_eq_true rfl) (Nat.le_of_ble_eq_true rfl) (fun X C hR => ?_)
  unfold sp_count at hR
  refine jr_iload_1 C d_X_count_0 ?_
  refine qX_X_isFacet C (cX_isFacet l D (ty_X k) (w_X q k) σ y) ⟨Nat.le_of_ble_eq_true rfl, Nat.le_of_ble_eq_true rfl⟩ (Nat.le_of_ble_eq_true rfl) d_X_count_1 (fx_p (fun z1 h1 => ?_))
  rcases h1 with ⟨rfl, f, hf, rfl⟩ | ⟨rfl, h1⟩
  · refine jr_if_eq (tgt := 14) C d_X_count_4 (by decide) (fun e1 => ?_) (fun e1 => ?_)
    · exact absurd e1 (by decide)
    · refine jr_iload_2 C d_X_count_7 ?_
      refine qX_X_isValue C (cX_isValue l D (ty_X k) (w_X q k) σ z) ⟨Nat.le_of_ble_eq_true rfl, Nat.le_of_ble_eq_true rfl⟩ (Nat.le_of_ble_eq_true rfl) d_X_count_8 (fx_p (fun z2 h2 => ?_))
      rcases h2 with ⟨rfl, v, hv, rfl⟩ | ⟨rfl, h2⟩
      · rw [ix_in hf (by omega), ix_in hv (by omega)] at hR
        refine jr_if_ne (tgt := 16) C d_X_count_11 (by decide) (fun e2 => ?_) (fun e2 => ?_)
        · refine jr_aload_0 C d_X_count_16 ?_
          refine qX_X_hitsLeft C (cX_hitsLeft l D q k σ a hx) rfl ⟨Nat.le_of_ble_eq_true rfl, Nat.le_of_ble_eq_true rfl⟩ (Nat.le_of_ble_eq_true rfl) d_X_count_17 (fx_p (fun s hs => ?_))
          refine jr_aload_0 C d_X_count_20 ?_
          refine gX_havers C d_X_count_21 ?_
          refine jr_iload_1 C d_X_count_24 ?_
          refine jr_iload_2 C d_X_count_25 ?_
          refine kX_cell C ⟨Nat.le_of_ble_eq_true rfl, Nat.le_of_ble_eq_true rfl⟩ (Nat.le_of_ble_eq_true rfl) d_X_count_26 ?_
          refine aX_havers C (by omega) d_X_count_29 ?_
          refine jr_land C d_X_count_30 ?_
          refine qX_JL_bitCount C (cJ_bitCount l D (ty_X k) (w_X q k) σ (s &&& x_hav σ (f * 100 + v))) ⟨Nat.le_of_ble_eq_true rfl, Nat.le_of_ble_eq_true rfl⟩ (Nat.le_of_ble_eq_true rfl) d_X_count_31 (fx_p (fun c hc => ?_))
          rw [hc]
          exact hR _ _ _ _ d_X_count_34 rfl ⟨by
            show nI _ = nI _
            congr 1
            refine ct_congr (fun r hr => ?_)
            rw [tb_and, hs r hr, hx.2.2.2.1 f v r hf hv hr]
            apply bl_eq
            rw [Bool.and_eq_true, bx_iff, bx_iff, bx_iff], hx⟩
        · exact absurd e2 (by decide)
      · refine jr_if_ne (tgt := 16) C d_X_count_11 (by decide) (fun e2 => ?_) (fun e2 => ?_)
        · exact absurd nI_0 e2
        · refine jr_iconst (v := -1) C d_X_count_14 (by decide) ?_
          rw [ix_in hf (by omega), ix_no (by omega) h2] at hR
          exact hR _ _ _ _ d_X_count_15 rfl ⟨rfl, hx⟩
  · refine jr_if_eq (tgt := 14) C d_X_count_4 (by decide) (fun e1 => ?_) (fun e1 => ?_)
    · refine jr_iconst (v := -1) C d_X_count_14 (by decide) ?_
      rw [ix_no (by omega) h1] at hR
      exact hR _ _ _ _ d_X_count_15 rfl ⟨rfl, hx⟩
    · exact absurd nI_0 e1
theorem sp_le {a : ab_T} (hw : a_wf a) (f v : Nat) : sp_cnt a f v ≤ 60 := by
  have hn := hw.1
  unfold sp_cnt
  have h0 : bx_b (a_left a 0 ∧ a_has a 0 f v) = false := bx_neg.mpr (fun h => by have := (hw.2.2.2.1 0 h.1.1).1; omega)
  rw [ct_ext (n := a_n a + 1) (by omega) (fun i h1 h2 => bx_neg.mpr (fun h => by have := (hw.2.2.2.1 i h.1.1).2; omega)), Nat.add_comm, ct_shift]
  have h1 : ct_n (fun r => bx_b (a_left a r ∧ a_has a r f v)) 1 = 0 := ct_sf h0
  rw [h1]
  have := ct_le (fun i => bx_b (a_left a (1 + i) ∧ a_has a (1 + i) f v)) (a_n a)
  omega
theorem cX_top (hw : a_wf a) (hx : rx_r a σ) (y i : Int32) : fx_MI l D cl_s (ty_X k) (w_X q k) y_X_top (k_X_top :: tb_l) rm_X_top [.ref (q 0), .int y, .int i] σ (fun r u => sp_top a y i r ∧ rx_r a u) := by
  refine fx_enterI (by decide +kernel) [some (.ref (q 0)), some (.int y), some (.int i)] rfl (Nat.le_of_ble_eq_true rfl) (Nat.le_of_ble_eq_true rfl) (fun X C hR => ?_)
  unfold sp_top at hR
  refine jr_iload_1 C d_X_top_0 ?_
  refine qX_X_isFacet C (cX_isFacet l D (ty_X k) (w_X q k) σ y) ⟨Nat.le_of_ble_eq_true rfl, Nat.le_of_ble_eq_true rfl⟩ (Nat.le_of_ble_eq_true rfl) d_X_top_1 (fx_p (fun z1 h1 => ?_))
  rcases h1 with ⟨rfl, f, hf, rfl⟩ | ⟨rfl, h1⟩
  · rw [ix_in hf (by omega)] at hR
    refine jr_if_ne (tgt := 9) C d_X_top_4 (by decide) (fun e1 => ?_) (fun e1 => ?_)
    · refine jr_aload_0 C d_X_top_9 ?_
      refine jr_iload_1 C d_X_top_10 ?_
      refine qX_X_countValues C (cX_countValues l D q k σ a hx f hf) rfl ⟨Nat.le_of_ble_eq_true rfl, Nat.le_of_ble_eq_true rfl⟩ (Nat.le_of_ble_eq_true rfl) d_X_top_11 (fun u hu => ?_)
      obtain ⟨c, rfl, hc⟩ := hu
      refine jr_aload_0 C d_X_top_14 ?_
      refine jr_iload_2 C d_X_top_15 ?_
      refine qX_X_ranked C (cX_ranked l D q k (xs_cnt σ c) (sp_cnt a f) i (fun v hv => ⟨hc v hv, sp_le hw f v⟩)) rfl ⟨Nat.le_of_ble_eq_true rfl, Nat.le_of_ble_eq_true rfl⟩ (Nat.le_of_ble_eq_true rfl) d_X_top_16 (fx_p (fun r hr => ?_))
      exact hR _ _ _ _ d_X_top_19 rfl ⟨hr, hx⟩
    · exact absurd e1 (by decide)
  · rw [ix_no (by omega) h1] at hR
    refine jr_if_ne (tgt := 9) C d_X_top_4 (by decide) (fun e1 => ?_) (fun e1 => ?_)
    · exact absurd nI_0 e1
    · refine jr_iconst (v := -1) C d_X_top_7 (by decide) ?_
      exact hR _ _ _ _ d_X_top_8 rfl ⟨rfl, hx⟩
theorem cX_below (hw : a_wf a) (hx : rx_r a σ) (y : Int32) (roots : Bool) (z i : Int32) : fx_MI l D cl_s (ty_X k) (w_X q k) y_X_below (k_X_below :: tb_l) rm_X_below [.ref (q 0), .int y, .int (b01 roots), .int z, .int i] σ (fun r u => sp_below a y roots z i r ∧ rx_r a u) := by
  refine fx_enterI (by decide +kernel) [some (.ref (q 0)), some (.int y), some (.int (b01 roots)), some (.int z), some (.int i)] rfl (Nat.le_of_ble_eq_true rfl) (Nat.le_of_ble_eq_true rfl) (fun X C hR => ?_)
  unfold sp_below at hR
  refine jr_iload_1 C d_X_below_0 ?_
  refine qX_X_isFacet C (cX_isFacet l D (ty_X k) (w_X q k) σ y) ⟨Nat.le_of_ble_eq_true rfl, Nat.le_of_ble_eq_true rfl⟩ (Nat.le_of_ble_eq_true rfl) d_X_below_1 (fx_p (fun z1 h1 => ?_))
  rcases h1 with ⟨rfl, f, hf, rfl⟩ | ⟨rfl, h1⟩
  · rw [ix_in hf (by omega)] at hR
    refine jr_if_eq (tgt := 18) C d_X_below_4 (by decide) (fun e1 => ?_) (fun e1 => ?_)
    · exact absurd e1 (by decide)
    · have fin : ∀ p, p ≤ 100 → (if roots = true then (-1 : Int32) else z) = en_p p → (∀ r u pc pl2, decode b_X_below pc = .ok (.ireturn, 1) → narrow .int (.int r) = .int r → rk_res (sp_flt a f p) i r ∧ rx_r a u → fx_J X (w_X q k u) pc pl2 [.int r]) → fx_J X (w_X q k σ) 20 [some (.ref (q 0)), some (.int (nI f)), some (.int (b01 roots)), some (.int z), some (.int i)] [] := by
        intro p hp he hR
        refine jr_aload_0 C d_X_below_20 ?_
        refine jr_iload_1 C d_X_below_21 ?_
        refine qX_X_countValues C (cX_countValues l D q k σ a hx f hf) rfl ⟨Nat.le_of_ble_eq_true rfl, Nat.le_of_ble_eq_true rfl⟩ (Nat.le_of_ble_eq_true rfl) d_X_below_22 (fun u hu => ?_)
        obtain ⟨c, rfl, hc⟩ := hu
        have fin2 : fx_J X (w_X q k (xs_cnt σ c)) 36 [some (.ref (q 0)), some (.int (nI f)), some (.int (b01 roots)), some (.int z), some (.int i)] [.int (en_p p), .int (nI f), .ref (q 0)] := by
          refine qX_X_dropOthersThanBelow C (cX_drop l D q k (xs_cnt σ c) f (en_p p) hf) rfl ⟨Nat.le_of_ble_eq_true rfl, Nat.le_of_ble_eq_true rfl⟩ (Nat.le_of_ble_eq_true rfl) d_X_below_36 (fun u hu => ?_)
          obtain ⟨c2, rfl, hc2⟩ := hu
          refine jr_aload_0 C d_X_below_39 ?_
          refine jr_iload_4 C d_X_below_40 ?_
          refine qX_X_ranked C (cX_ranked l D q k _ (sp_flt a f p) i (fun v hv => ?_)) rfl ⟨Nat.le_of_ble_eq_true rfl, Nat.le_of_ble_eq_true rfl⟩ (Nat.le_of_ble_eq_true rfl) d_X_below_42 (fx_p (fun r hr => ?_))
          · have e1 : c2 v = if x_bro σ (f * 100 + v) = en_p p then c v else nI 0 := hc2 v hv
            show c2 v = nI (if a_par a f v = p then sp_cnt a f v else 0) ∧ (if a_par a f v = p then sp_cnt a f v else 0) ≤ 60
            rw [e1, hx.2.2.2.2.1 f v hf hv, hc v hv]
            by_cases e : a_par a f v = p
            · rw [if_pos e, if_pos (by rw [e])]
              exact ⟨rfl, sp_le hw f v⟩
            · rw [if_neg e, if_neg (fun q => e ((en_eq ((hw.2.2.2.2 f).1 v) hp).mp q))]
              exact ⟨rfl, by omega⟩
          · exact hR _ _ _ _ d_X_below_45 rfl ⟨hr, hx⟩
        refine jr_aload_0 C d_X_below_25 ?_
        refine jr_iload_1 C d_X_below_26 ?_
        refine jr_iload_2 C d_X_below_27 ?_
        refine jr_if_eq (tgt := 35) C d_X_below_28 (by decide) (fun e2 => ?_) (fun e2 => ?_)
        · refine jr_iload_3 C d_X_below_35 ?_
          rw [b01_eq] at e2
          rw [e2] at he
          rw [if_neg (by decide)] at he
          refine jr_eqi he ?_
          exact fin2
        · refine jr_iconst (v := -1) C d_X_below_31 (by decide) ?_
          refine jr_goto (tgt := 36) C d_X_below_32 (by decide) ?_
          rw [b01_ne] at e2
          rw [e2, if_pos rfl] at he
          refine jr_eqi he ?_
          exact fin2
      refine jr_iload_2 C d_X_below_7 ?_
      refine jr_if_ne (tgt := 20) C d_X_below_8 (by decide) (fun e2 => ?_) (fun e2 => ?_)
      · rw [b01_ne] at e2
        rw [e2] at hR
        exact fin 100 (by omega) (by rw [e2, if_pos rfl]; rfl) hR
      · rw [b01_eq] at e2
        rw [e2] at hR
        refine jr_iload_3 C d_X_below_11 ?_
        refine qX_X_isValue C (cX_isValue l D (ty_X k) (w_X q k) σ z) ⟨Nat.le_of_ble_eq_true rfl, Nat.le_of_ble_eq_true rfl⟩ (Nat.le_of_ble_eq_true rfl) d_X_below_12 (fx_p (fun z2 h2 => ?_))
        rcases h2 with ⟨rfl, p, hp, rfl⟩ | ⟨rfl, h2⟩
        · rw [ix_in hp (by omega)] at hR
          refine jr_if_ne (tgt := 20) C d_X_below_15 (by decide) (fun e3 => ?_) (fun e3 => ?_)
          · exact fin p (by omega) (by rw [e2, if_neg (by decide), en_in hp]) hR
          · exact absurd e3 (by decide)
        · rw [ix_no (by omega) h2] at hR
          refine jr_if_ne (tgt := 20) C d_X_below_15 (by decide) (fun e3 => ?_) (fun e3 => ?_)
          · exact absurd nI_0 e3
          · refine jr_iconst (v := -1) C d_X_below_18 (by decide) ?_
            exact hR _ _ _ _ d_X_below_19 rfl ⟨rfl, hx⟩
  · rw [ix_no (by omega) h1] at hR
    refine jr_if_eq (tgt := 18) C d_X_below_4 (by decide) (fun e1 => ?_) (fun e1 => ?_)
    · refine jr_iconst (v := -1) C d_X_below_18 (by decide) ?_
      exact hR _ _ _ _ d_X_below_19 rfl ⟨rfl, hx⟩
    · exact absurd nI_0 e1
theorem cX_band (hx : rx_r a σ) (y lo hi : Int32) : fx_MI l D cl_s (ty_X k) (w_X q k) y_X_band (k_X_band :: tb_l) rm_X_band [.ref (q 0), .int y, .int lo, .int hi] σ (fun r u => r = sp_band a y lo hi ∧ rx_r a u) := by
  refine fx_enterI (by decide +kernel) [some (.ref (q 0)), some (.int y), some (.int lo), some (.int hi)] rfl (Nat.le_of_ble_eq_true rfl) (Nat.le_of_ble_eq_true rfl) (fun X C hR => ?_)
  unfold sp_band at hR
  refine jr_iload_1 C d_X_band_0 ?_
  refine qX_X_isFacet C (cX_isFacet l D (ty_X k) (w_X q k) σ y) ⟨Nat.le_of_ble_eq_true rfl, Nat.le_of_ble_eq_true rfl⟩ (Nat.le_of_ble_eq_true rfl) d_X_band_1 (fx_p (fun z1 h1 => ?_))
  rcases h1 with ⟨rfl, f, hf, rfl⟩ | ⟨rfl, h1⟩
  · rw [ix_in hf (by omega)] at hR
    refine jr_if_eq (tgt := 12) C d_X_band_4 (by decide) (fun e1 => ?_) (fun e1 => ?_)
    · exact absurd e1 (by decide)
    · refine jr_iload_3 C d_X_band_7 ?_
      refine jr_iload_2 C d_X_band_8 ?_
      refine jr_icmp_ge (tgt := 14) C d_X_band_9 (by decide) (fun e2 => ?_) (fun e2 => ?_)
      · have e3 : ¬ hi < lo := by
          rw [Int32.lt_iff_toInt_lt]
          rw [Int32.le_iff_toInt_le] at e2
          omega
        dsimp only at hR
        rw [if_neg e3] at hR
        refine jr_aload_0 C d_X_band_14 ?_
        refine qX_X_hitsLeft C (cX_hitsLeft l D q k σ a hx) rfl ⟨Nat.le_of_ble_eq_true rfl, Nat.le_of_ble_eq_true rfl⟩ (Nat.le_of_ble_eq_true rfl) d_X_band_15 (fx_p (fun s hs => ?_))
        refine jr_aload_0 C d_X_band_18 ?_
        refine jr_iload_1 C d_X_band_19 ?_
        refine jr_iload_2 C d_X_band_20 ?_
        refine jr_iload_3 C d_X_band_21 ?_
        refine qX_X_holdersBetween C (cX_holdersBetween l D q k σ f hf lo hi) rfl ⟨Nat.le_of_ble_eq_true rfl, Nat.le_of_ble_eq_true rfl⟩ (Nat.le_of_ble_eq_true rfl) d_X_band_22 (fx_p (fun t ht => ?_))
        refine jr_land C d_X_band_25 ?_
        refine qX_JL_bitCount C (cJ_bitCount l D (ty_X k) (w_X q k) σ (s &&& t)) ⟨Nat.le_of_ble_eq_true rfl, Nat.le_of_ble_eq_true rfl⟩ (Nat.le_of_ble_eq_true rfl) d_X_band_26 (fx_p (fun c hc => ?_))
        rw [hc]
        exact hR _ _ _ _ d_X_band_29 rfl ⟨by
          congr 1
          refine ct_congr (fun r hr => ?_)
          rw [tb_and, hs r hr, ht r]
          apply bl_eq
          rw [Bool.and_eq_true, bx_iff, bx_iff, bx_iff]
          refine and_congr Iff.rfl ⟨fun ⟨v, g1, g2, g3, g4⟩ => ⟨v, g1, g2, g3, ?_⟩, fun ⟨v, g1, g2, g3, g4⟩ => ⟨v, g1, g2, g3, ?_⟩⟩
          · rw [← hx.2.2.1 f v r hf g1 hr]; exact g4
          · rw [hx.2.2.1 f v r hf g1 hr]; exact g4, hx⟩
      · have e3 : hi < lo := by
          rw [Int32.lt_iff_toInt_lt]
          rw [Int32.le_iff_toInt_le] at e2
          omega
        dsimp only at hR
        rw [if_pos e3] at hR
        refine jr_iconst (v := -1) C d_X_band_12 (by decide) ?_
        exact hR _ _ _ _ d_X_band_13 rfl ⟨rfl, hx⟩
  · rw [ix_no (by omega) h1] at hR
    refine jr_if_eq (tgt := 12) C d_X_band_4 (by decide) (fun e1 => ?_) (fun e1 => ?_)
    · refine jr_iconst (v := -1) C d_X_band_12 (by decide) ?_
      exact hR _ _ _ _ d_X_band_13 rfl ⟨rfl, hx⟩
    · exact absurd nI_0 e1
theorem cX_missing (hx : rx_r a σ) (y : Int32) : fx_MI l D cl_s (ty_X k) (w_X q k) y_X_missing (k_X_missing :: tb_l) rm_X_missing [.ref (q 0), .int y] σ (fun r u => r = sp_missing a y ∧ rx_r a u) := by
  refine fx_enterI (by decide +kernel) [some (.ref (q 0)), some (.int y)] rfl (Nat.le_of_ble_eq_true rfl) (Nat.le_of_ble_eq_true rfl) (fun X C hR => ?_)
  unfold sp_missing at hR
  refine jr_iload_1 C d_X_missing_0 ?_
  refine qX_X_isFacet C (cX_isFacet l D (ty_X k) (w_X q k) σ y) ⟨Nat.le_of_ble_eq_true rfl, Nat.le_of_ble_eq_true rfl⟩ (Nat.le_of_ble_eq_true rfl) d_X_missing_1 (fx_p (fun z1 h1 => ?_))
  rcases h1 with ⟨rfl, f, hf, rfl⟩ | ⟨rfl, h1⟩
  · rw [ix_in hf (by omega)] at hR
    refine jr_if_ne (tgt := 9) C d_X_missing_4 (by decide) (fun e1 => ?_) (fun e1 => ?_)
    · refine jr_aload_0 C d_X_missing_9 ?_
      refine qX_X_hitsLeft C (cX_hitsLeft l D q k σ a hx) rfl ⟨Nat.le_of_ble_eq_true rfl, Nat.le_of_ble_eq_true rfl⟩ (Nat.le_of_ble_eq_true rfl) d_X_missing_10 (fx_p (fun s hs => ?_))
      refine jr_aload_0 C d_X_missing_13 ?_
      refine jr_iload_1 C d_X_missing_14 ?_
      refine jr_iconst (v := nI 0) C d_X_missing_15 (by decide) ?_
      refine jr_bipush (v := nI 99) C d_X_missing_16 (by decide) ?_
      refine qX_X_holdersBetween C (cX_holdersBetween l D q k σ f hf (nI 0) (nI 99)) rfl ⟨Nat.le_of_ble_eq_true rfl, Nat.le_of_ble_eq_true rfl⟩ (Nat.le_of_ble_eq_true rfl) d_X_missing_18 (fx_p (fun t ht => ?_))
      refine jr_ldc2 C d_X_missing_21 (List.mem_cons_of_mem _ cl_X_73) ?_
      refine jr_lxor C d_X_missing_24 ?_
      refine jr_land C d_X_missing_25 ?_
      refine qX_JL_bitCount C (cJ_bitCount l D (ty_X k) (w_X q k) σ (s &&& (t ^^^ (-1)))) ⟨Nat.le_of_ble_eq_true rfl, Nat.le_of_ble_eq_true rfl⟩ (Nat.le_of_ble_eq_true rfl) d_X_missing_26 (fx_p (fun c hc => ?_))
      rw [hc]
      exact hR _ _ _ _ d_X_missing_29 rfl ⟨by
        dsimp only
        congr 1
        refine ct_congr (fun r hr => ?_)
        rw [tb_and, tb_not _ hr, hs r hr, ht r]
        apply bl_eq
        rw [Bool.and_eq_true, bx_iff, bx_iff, Bool.not_eq_true', bx_neg, nI_toInt (by omega), nI_toInt (by omega)]
        refine and_congr Iff.rfl (not_congr ⟨fun ⟨v, g1, g2, g3, g4⟩ => ⟨v, g1, ?_⟩, fun ⟨v, g1, g4⟩ => ⟨v, g1, by omega, by omega, ?_⟩⟩)
        · rw [← hx.2.2.1 f v r hf g1 hr]; exact g4
        · rw [hx.2.2.1 f v r hf g1 hr]; exact g4, hx⟩
    · exact absurd e1 (by decide)
  · rw [ix_no (by omega) h1] at hR
    refine jr_if_ne (tgt := 9) C d_X_missing_4 (by decide) (fun e1 => ?_) (fun e1 => ?_)
    · exact absurd nI_0 e1
    · refine jr_iconst (v := -1) C d_X_missing_7 (by decide) ?_
      exact hR _ _ _ _ d_X_missing_8 rfl ⟨rfl, hx⟩
theorem cX_left (hw : a_wf a) (hx : rx_r a σ) (i : Int32) : fx_MI l D cl_s (ty_X k) (w_X q k) y_X_left (k_X_left :: tb_l) rm_X_left [.ref (q 0), .int i] σ (fun r u => sp_left a i r ∧ rx_r a u) := by
  have hn := hw.1
  refine fx_enterI (by decide +kernel) [some (.ref (q 0)), some (.int i), none, none, none, none] rfl (Nat.le_of_ble_eq_true rfl) (Nat.le_of_ble_eq_true rfl) (fun X C hR => ?_)
  refine jr_aload_0 C d_X_left_0 ?_
  refine qX_X_hitsLeft C (cX_hitsLeft l D q k σ a hx) rfl ⟨Nat.le_of_ble_eq_true rfl, Nat.le_of_ble_eq_true rfl⟩ (Nat.le_of_ble_eq_true rfl) d_X_left_1 (fx_p (fun s hs => ?_))
  refine jr_lstore_2 C d_X_left_4 rfl ?_
  refine jr_iconst (v := nI 0) C d_X_left_5 (by decide) ?_
  refine jr_istore_4 C d_X_left_6 rfl ?_
  refine jr_iconst (v := nI 1) C d_X_left_8 (by decide) ?_
  refine jr_istore_5 C d_X_left_9 rfl ?_
  have h0 : bx_b (a_left a 0) = false := bx_neg.mpr (fun h => by have := (hw.2.2.2.1 0 h.1).1; omega)
  have L := lp_up (P := fun r => 1 ≤ r → (∀ j, j < r → a_left a j → ¬ nI (ct_n (fun s => bx_b (a_left a s)) j) = i) → fx_J X (w_X q k σ) 11 [some (.ref (q 0)), some (.int i), some (.long s), none, some (.int (nI (ct_n (fun s => bx_b (a_left a s)) r))), some (.int (nI r))] []) (a_n a + 1) (fun r hr ih hr1 hno => ?_)
  · have := L 1 (by omega) (Nat.le_refl 1) (fun j hj hl => by
      rw [show j = 0 by omega] at hl
      exact absurd hl (bx_neg.mp h0))
    rw [show ct_n (fun s => bx_b (a_left a s)) 1 = 0 from ct_sf h0] at this
    exact this
  · have go : ∀ b, b = ct_n (fun s => bx_b (a_left a s)) (r + 1) → r < a_n a + 1 → (a_left a r → ¬ nI (ct_n (fun s => bx_b (a_left a s)) r) = i) → fx_J X (w_X q k σ) 44 [some (.ref (q 0)), some (.int i), some (.long s), none, some (.int (nI b)), some (.int (nI r))] [] := by
      intro b hb h2 h3
      refine jr_incN_5 C d_X_left_44 rfl ?_
      refine jr_goto (tgt := 11) C d_X_left_47 (by decide) ?_
      rw [hb]
      refine ih h2 (by omega) (fun j hj hl => ?_)
      by_cases e : j = r
      · rw [e] at hl ⊢; exact h3 hl
      · exact hno j (by omega) hl
    refine jr_iload_5 C d_X_left_11 ?_
    refine jr_aload_0 C d_X_left_13 ?_
    refine gX_records C d_X_left_14 ?_
    refine jr_eqi hx.1 ?_
    refine jr_N_gt (tgt := 50) C d_X_left_17 (by decide) (by omega) (by omega) (fun h => ?_) (fun h => ?_)
    · refine jr_iconst (v := nI 0) C d_X_left_50 (by decide) ?_
      exact hR _ _ _ _ d_X_left_51 rfl ⟨Or.inr ⟨rfl, fun j hj hl => hno j (by have := (hw.2.2.2.1 j hl.1).2; omega) hl⟩, hx⟩
    · refine jr_lload_2 C d_X_left_20 ?_
      refine jr_iload_5 C d_X_left_21 ?_
      refine kX_bit C ⟨Nat.le_of_ble_eq_true rfl, Nat.le_of_ble_eq_true rfl⟩ (Nat.le_of_ble_eq_true rfl) d_X_left_23 ?_
      refine jr_land C d_X_left_26 ?_
      refine jr_lconst (v := 0) C d_X_left_27 (by decide) ?_
      refine jr_lcmp C d_X_left_28 ?_
      refine jr_if_eq (tgt := 44) C d_X_left_29 (by decide) (fun h2 => ?_) (fun h2 => ?_)
      · rw [lg_cmp_eq, tb_has (by omega), hs r (by omega)] at h2
        exact go _ (ct_sf h2).symm (by omega) (fun hl => absurd hl (bx_neg.mp h2))
      · rw [lg_cmp_eq, tb_has (by omega), hs r (by omega)] at h2
        have h2 := ts_nf h2
        refine jr_iload_4 C d_X_left_32 ?_
        refine jr_iload_1 C d_X_left_34 ?_
        refine jr_icmp_ne (tgt := 41) C d_X_left_35 (by decide) (fun h3 => ?_) (fun h3 => ?_)
        · refine jr_incN_4 C d_X_left_41 rfl ?_
          exact go _ (ct_st (p := fun s => bx_b (a_left a s)) h2).symm (by omega) (fun _ => h3)
        · refine jr_iload_5 C d_X_left_38 ?_
          exact hR _ _ _ _ d_X_left_40 rfl ⟨Or.inl ⟨r, by omega, bx_iff.mp h2, h3, rfl⟩, hx⟩
end PX2
end
section
section PX3
variable (l : Launch) (D : va_G) (q : Nat → Nat) (k : Nat → ClassId) (σ : sx_T) (a : ab_T)
theorem cX_value (hw : a_wf a) (hx : rx_r a σ) (x y z : Int32) : fx_MI l D cl_s (ty_X k) (w_X q k) y_X_value (k_X_value :: tb_l) rm_X_value [.ref (q 0), .int x, .int y, .int z] σ (fun r u => r = (sp_value a x y z).1 ∧ rx_r (sp_value a x y z).2 u) := by
  have hn := hw.1
  have hv4 := hw.2.1
  refine fx_enterI (by decide +kernel) [some (.ref (q 0)), some (.int x), some (.int y), some (.int z)] rfl (Nat.le_of_ble_eq_true rfl) (Nat.le_of_ble_eq_true rfl) (fun X C hR => ?_)
  unfold sp_value at hR
  refine jr_aload_0 C d_X_value_0 ?_
  refine jr_iload_1 C d_X_value_1 ?_
  refine qX_X_isRecord C (cX_isRecord l D q k σ x (a_n a) hn hx.1) rfl ⟨Nat.le_of_ble_eq_true rfl, Nat.le_of_ble_eq_true rfl⟩ (Nat.le_of_ble_eq_true rfl) d_X_value_2 (fx_p (fun z0 h0 => ?_))
  rcases h0 with ⟨rfl, r, hr1, hr2, rfl⟩ | ⟨rfl, h0⟩
  · rw [rc_in hr1 hr2 (by omega)] at hR
    refine jr_if_eq (tgt := 22) C d_X_value_5 (by decide) (fun e0 => ?_) (fun e0 => ?_)
    · exact absurd e0 (by decide)
    · refine jr_iload_2 C d_X_value_8 ?_
      refine qX_X_isFacet C (cX_isFacet l D (ty_X k) (w_X q k) σ y) ⟨Nat.le_of_ble_eq_true rfl, Nat.le_of_ble_eq_true rfl⟩ (Nat.le_of_ble_eq_true rfl) d_X_value_9 (fx_p (fun z1 h1 => ?_))
      rcases h1 with ⟨rfl, f, hf, rfl⟩ | ⟨rfl, h1⟩
      · rw [ix_in hf (by omega)] at hR
        refine jr_if_eq (tgt := 22) C d_X_value_12 (by decide) (fun e1 => ?_) (fun e1 => ?_)
        · exact absurd e1 (by decide)
        · refine jr_iload_3 C d_X_value_15 ?_
          refine qX_X_isValue C (cX_isValue l D (ty_X k) (w_X q k) σ z) ⟨Nat.le_of_ble_eq_true rfl, Nat.le_of_ble_eq_true rfl⟩ (Nat.le_of_ble_eq_true rfl) d_X_value_16 (fx_p (fun z2 h2 => ?_))
          rcases h2 with ⟨rfl, v, hv, rfl⟩ | ⟨rfl, h2⟩
          · rw [ix_in hv (by omega)] at hR
            refine jr_if_ne (tgt := 24) C d_X_value_19 (by decide) (fun e2 => ?_) (fun e2 => ?_)
            · refine jr_aload_0 C d_X_value_24 ?_
              refine jr_iload_1 C d_X_value_25 ?_
              refine jr_iload_2 C d_X_value_26 ?_
              refine jr_iload_3 C d_X_value_27 ?_
              refine qX_X_holds C (cX_holds l D q k σ r f v (by omega) hf hv) rfl ⟨Nat.le_of_ble_eq_true rfl, Nat.le_of_ble_eq_true rfl⟩ (Nat.le_of_ble_eq_true rfl) d_X_value_28 (fx_p (fun z3 h3 => ?_))
              rw [h3, hx.2.2.1 f v r hf hv (by omega)]
              refine jr_if_ne (tgt := 44) C d_X_value_31 (by decide) (fun e3 => ?_) (fun e3 => ?_)
              · rw [b01_ne] at e3
                refine jr_iconst (v := nI 0) C d_X_value_44 (by decide) ?_
                dsimp only at hR
                rw [if_pos (Or.inl e3)] at hR
                exact hR _ _ _ _ d_X_value_45 rfl ⟨rfl, hx⟩
              · rw [b01_eq] at e3
                refine jr_aload_0 C d_X_value_34 ?_
                refine gX_held C d_X_value_35 ?_
                refine jr_eqi hx.2.1 ?_
                refine jr_sipush (v := nI 400) C d_X_value_38 (by decide) ?_
                refine jr_N_lt (tgt := 46) C d_X_value_41 (by decide) (by omega) (by omega) (fun e4 => ?_) (fun e4 => ?_)
                · dsimp only at hR
                  rw [if_neg (by rw [e3]; rintro (g | g); exact absurd g (by decide); omega)] at hR
                  refine jr_aload_0 C d_X_value_46 ?_
                  refine gX_holders C d_X_value_47 ?_
                  refine jr_iload_2 C d_X_value_50 ?_
                  refine jr_iload_3 C d_X_value_51 ?_
                  refine kX_cell C ⟨Nat.le_of_ble_eq_true rfl, Nat.le_of_ble_eq_true rfl⟩ (Nat.le_of_ble_eq_true rfl) d_X_value_52 ?_
                  refine jr_dup2_11 C d_X_value_55 rfl rfl ?_
                  refine aX_holders C (by omega) d_X_value_56 ?_
                  refine jr_iload_1 C d_X_value_57 ?_
                  refine kX_bit C ⟨Nat.le_of_ble_eq_true rfl, Nat.le_of_ble_eq_true rfl⟩ (Nat.le_of_ble_eq_true rfl) d_X_value_58 ?_
                  refine jr_lor C d_X_value_61 ?_
                  refine sX_holders C (by omega) d_X_value_62 ?_
                  refine jr_aload_0 C d_X_value_63 ?_
                  refine jr_dup C d_X_value_64 rfl ?_
                  refine gX_held C d_X_value_65 ?_
                  refine jr_eqi hx.2.1 ?_
                  refine jr_iconst (v := nI 1) C d_X_value_68 (by decide) ?_
                  refine jr_iaddN C d_X_value_69 ?_
                  refine pX_held C d_X_value_70 ?_
                  refine jr_aload_0 C d_X_value_73 ?_
                  refine jr_iload_2 C d_X_value_74 ?_
                  refine jr_iload_3 C d_X_value_75 ?_
                  refine jr_iload_1 C d_X_value_76 ?_
                  refine kX_bit C ⟨Nat.le_of_ble_eq_true rfl, Nat.le_of_ble_eq_true rfl⟩ (Nat.le_of_ble_eq_true rfl) d_X_value_77 ?_
                  refine qX_X_raise C (cX_raise l D q k _ (a_par a f) (hw.2.2.2.2 f) f v (tb_1 r) hf hv (fun u hu => hx.2.2.2.2.1 f u hf hu)) rfl ⟨Nat.le_of_ble_eq_true rfl, Nat.le_of_ble_eq_true rfl⟩ (Nat.le_of_ble_eq_true rfl) d_X_value_80 (fun u hu => ?_)
                  obtain ⟨h, rfl, hh⟩ := hu
                  have hx2 := px_val hw hx hr2 hv hh
                  refine jr_aload_0 C d_X_value_83 ?_
                  refine jr_iload_1 C d_X_value_84 ?_
                  refine jr_iload_2 C d_X_value_85 ?_
                  refine qX_X_heldOf C (cX_heldOf l D q k _ r f (by omega) hf) rfl ⟨Nat.le_of_ble_eq_true rfl, Nat.le_of_ble_eq_true rfl⟩ (Nat.le_of_ble_eq_true rfl) d_X_value_86 (fx_p (fun c hc => ?_))
                  rw [hc]
                  exact hR _ _ _ _ d_X_value_89 rfl ⟨congrArg nI (ct_congr (fun u hu => hx2.2.2.1 f u r hf hu (by omega))), hx2⟩
                · refine jr_iconst (v := nI 0) C d_X_value_44 (by decide) ?_
                  dsimp only at hR
                  rw [if_pos (Or.inr (by omega))] at hR
                  exact hR _ _ _ _ d_X_value_45 rfl ⟨rfl, hx⟩
            · exact absurd e2 (by decide)
          · rw [ix_no (by omega) h2] at hR
            refine jr_if_ne (tgt := 24) C d_X_value_19 (by decide) (fun e2 => ?_) (fun e2 => ?_)
            · exact absurd nI_0 e2
            · refine jr_iconst (v := nI 0) C d_X_value_22 (by decide) ?_
              exact hR _ _ _ _ d_X_value_23 rfl ⟨rfl, hx⟩
      · rw [ix_no (by omega) h1] at hR
        refine jr_if_eq (tgt := 22) C d_X_value_12 (by decide) (fun e1 => ?_) (fun e1 => ?_)
        · refine jr_iconst (v := nI 0) C d_X_value_22 (by decide) ?_
          exact hR _ _ _ _ d_X_value_23 rfl ⟨rfl, hx⟩
        · exact absurd nI_0 e1
  · rw [rc_no (by omega) h0] at hR
    refine jr_if_eq (tgt := 22) C d_X_value_5 (by decide) (fun e0 => ?_) (fun e0 => ?_)
    · refine jr_iconst (v := nI 0) C d_X_value_22 (by decide) ?_
      exact hR _ _ _ _ d_X_value_23 rfl ⟨rfl, hx⟩
    · exact absurd nI_0 e0
theorem cX_gone (hw : a_wf a) (hx : rx_r a σ) (hp : ∀ r f v, a_own a r f v = true → 0 < a_v a) (x y z : Int32) : fx_MI l D cl_s (ty_X k) (w_X q k) y_X_gone (k_X_gone :: tb_l) rm_X_gone [.ref (q 0), .int x, .int y, .int z] σ (fun r u => r = (sp_gone a x y z).1 ∧ rx_r (sp_gone a x y z).2 u) := by
  have hn := hw.1
  refine fx_enterI (by decide +kernel) [some (.ref (q 0)), some (.int x), some (.int y), some (.int z)] rfl (Nat.le_of_ble_eq_true rfl) (Nat.le_of_ble_eq_true rfl) (fun X C hR => ?_)
  unfold sp_gone at hR
  refine jr_aload_0 C d_X_gone_0 ?_
  refine jr_iload_1 C d_X_gone_1 ?_
  refine qX_X_isRecord C (cX_isRecord l D q k σ x (a_n a) hn hx.1) rfl ⟨Nat.le_of_ble_eq_true rfl, Nat.le_of_ble_eq_true rfl⟩ (Nat.le_of_ble_eq_true rfl) d_X_gone_2 (fx_p (fun z0 h0 => ?_))
  rcases h0 with ⟨rfl, r, hr1, hr2, rfl⟩ | ⟨rfl, h0⟩
  · rw [rc_in hr1 hr2 (by omega)] at hR
    refine jr_if_eq (tgt := 22) C d_X_gone_5 (by decide) (fun e0 => ?_) (fun e0 => ?_)
    · exact absurd e0 (by decide)
    · refine jr_iload_2 C d_X_gone_8 ?_
      refine qX_X_isFacet C (cX_isFacet l D (ty_X k) (w_X q k) σ y) ⟨Nat.le_of_ble_eq_true rfl, Nat.le_of_ble_eq_true rfl⟩ (Nat.le_of_ble_eq_true rfl) d_X_gone_9 (fx_p (fun z1 h1 => ?_))
      rcases h1 with ⟨rfl, f, hf, rfl⟩ | ⟨rfl, h1⟩
      · rw [ix_in hf (by omega)] at hR
        refine jr_if_eq (tgt := 22) C d_X_gone_12 (by decide) (fun e1 => ?_) (fun e1 => ?_)
        · exact absurd e1 (by decide)
        · refine jr_iload_3 C d_X_gone_15 ?_
          refine qX_X_isValue C (cX_isValue l D (ty_X k) (w_X q k) σ z) ⟨Nat.le_of_ble_eq_true rfl, Nat.le_of_ble_eq_true rfl⟩ (Nat.le_of_ble_eq_true rfl) d_X_gone_16 (fx_p (fun z2 h2 => ?_))
          rcases h2 with ⟨rfl, v, hv, rfl⟩ | ⟨rfl, h2⟩
          · rw [ix_in hv (by omega)] at hR
            refine jr_if_ne (tgt := 24) C d_X_gone_19 (by decide) (fun e2 => ?_) (fun e2 => ?_)
            · refine jr_aload_0 C d_X_gone_24 ?_
              refine jr_iload_1 C d_X_gone_25 ?_
              refine jr_iload_2 C d_X_gone_26 ?_
              refine jr_iload_3 C d_X_gone_27 ?_
              refine qX_X_holds C (cX_holds l D q k σ r f v (by omega) hf hv) rfl ⟨Nat.le_of_ble_eq_true rfl, Nat.le_of_ble_eq_true rfl⟩ (Nat.le_of_ble_eq_true rfl) d_X_gone_28 (fx_p (fun z3 h3 => ?_))
              rw [h3, hx.2.2.1 f v r hf hv (by omega)]
              refine jr_if_ne (tgt := 36) C d_X_gone_31 (by decide) (fun e3 => ?_) (fun e3 => ?_)
              · rw [b01_ne] at e3
                dsimp only at hR
                rw [if_pos e3] at hR
                have hp1 := hp r f v e3
                refine jr_aload_0 C d_X_gone_36 ?_
                refine gX_holders C d_X_gone_37 ?_
                refine jr_iload_2 C d_X_gone_40 ?_
                refine jr_iload_3 C d_X_gone_41 ?_
                refine kX_cell C ⟨Nat.le_of_ble_eq_true rfl, Nat.le_of_ble_eq_true rfl⟩ (Nat.le_of_ble_eq_true rfl) d_X_gone_42 ?_
                refine jr_dup2_11 C d_X_gone_45 rfl rfl ?_
                refine aX_holders C (by omega) d_X_gone_46 ?_
                refine jr_iload_1 C d_X_gone_47 ?_
                refine kX_bit C ⟨Nat.le_of_ble_eq_true rfl, Nat.le_of_ble_eq_true rfl⟩ (Nat.le_of_ble_eq_true rfl) d_X_gone_48 ?_
                refine jr_ldc2 C d_X_gone_51 (List.mem_cons_of_mem _ cl_X_73) ?_
                refine jr_lxor C d_X_gone_54 ?_
                refine jr_land C d_X_gone_55 ?_
                refine sX_holders C (by omega) d_X_gone_56 ?_
                refine jr_aload_0 C d_X_gone_57 ?_
                refine jr_dup C d_X_gone_58 rfl ?_
                refine gX_held C d_X_gone_59 ?_
                refine jr_eqi hx.2.1 ?_
                refine jr_iconst (v := nI 1) C d_X_gone_62 (by decide) ?_
                refine jr_isubN C d_X_gone_63 (by omega) ?_
                refine pX_held C d_X_gone_64 ?_
                refine jr_aload_0 C d_X_gone_67 ?_
                refine jr_iload_2 C d_X_gone_68 ?_
                refine qX_X_raiseAll C (cX_raiseAll l D q k _ (a_par a f) (hw.2.2.2.2 f) f hf (fun u hu => hx.2.2.2.2.1 f u hf hu)) rfl ⟨Nat.le_of_ble_eq_true rfl, Nat.le_of_ble_eq_true rfl⟩ (Nat.le_of_ble_eq_true rfl) d_X_gone_69 (fun u hu => ?_)
                obtain ⟨h, rfl, hh, ho⟩ := hu
                refine jr_iconst (v := nI 1) C d_X_gone_72 (by decide) ?_
                exact hR _ _ _ _ d_X_gone_73 rfl ⟨rfl, px_gon hw hx hr2 hv hh ho⟩
              · rw [b01_eq] at e3
                dsimp only at hR
                rw [if_neg (by rw [e3]; decide)] at hR
                refine jr_iconst (v := nI 0) C d_X_gone_34 (by decide) ?_
                exact hR _ _ _ _ d_X_gone_35 rfl ⟨rfl, hx⟩
            · exact absurd e2 (by decide)
          · rw [ix_no (by omega) h2] at hR
            refine jr_if_ne (tgt := 24) C d_X_gone_19 (by decide) (fun e2 => ?_) (fun e2 => ?_)
            · exact absurd nI_0 e2
            · refine jr_iconst (v := nI 0) C d_X_gone_22 (by decide) ?_
              exact hR _ _ _ _ d_X_gone_23 rfl ⟨rfl, hx⟩
      · rw [ix_no (by omega) h1] at hR
        refine jr_if_eq (tgt := 22) C d_X_gone_12 (by decide) (fun e1 => ?_) (fun e1 => ?_)
        · refine jr_iconst (v := nI 0) C d_X_gone_22 (by decide) ?_
          exact hR _ _ _ _ d_X_gone_23 rfl ⟨rfl, hx⟩
        · exact absurd nI_0 e1
  · rw [rc_no (by omega) h0] at hR
    refine jr_if_eq (tgt := 22) C d_X_gone_5 (by decide) (fun e0 => ?_) (fun e0 => ?_)
    · refine jr_iconst (v := nI 0) C d_X_gone_22 (by decide) ?_
      exact hR _ _ _ _ d_X_gone_23 rfl ⟨rfl, hx⟩
    · exact absurd nI_0 e0
theorem cX_narrower (hw : a_wf a) (hx : rx_r a σ) (y z b : Int32) : fx_MI l D cl_s (ty_X k) (w_X q k) y_X_narrower (k_X_narrower :: tb_l) rm_X_narrower [.ref (q 0), .int y, .int z, .int b] σ (fun r u => r = (sp_narrower a y z b).1 ∧ rx_r (sp_narrower a y z b).2 u) := by
  refine fx_enterI (by decide +kernel) [some (.ref (q 0)), some (.int y), some (.int z), some (.int b)] rfl (Nat.le_of_ble_eq_true rfl) (Nat.le_of_ble_eq_true rfl) (fun X C hR => ?_)
  unfold sp_narrower at hR
  refine jr_iload_1 C d_X_narrower_0 ?_
  refine qX_X_isFacet C (cX_isFacet l D (ty_X k) (w_X q k) σ y) ⟨Nat.le_of_ble_eq_true rfl, Nat.le_of_ble_eq_true rfl⟩ (Nat.le_of_ble_eq_true rfl) d_X_narrower_1 (fx_p (fun z1 h1 => ?_))
  rcases h1 with ⟨rfl, f, hf, rfl⟩ | ⟨rfl, h1⟩
  · rw [ix_in hf (by omega)] at hR
    refine jr_if_eq (tgt := 14) C d_X_narrower_4 (by decide) (fun e1 => ?_) (fun e1 => ?_)
    · exact absurd e1 (by decide)
    · refine jr_iload_2 C d_X_narrower_7 ?_
      refine qX_X_isValue C (cX_isValue l D (ty_X k) (w_X q k) σ z) ⟨Nat.le_of_ble_eq_true rfl, Nat.le_of_ble_eq_true rfl⟩ (Nat.le_of_ble_eq_true rfl) d_X_narrower_8 (fx_p (fun z2 h2 => ?_))
      rcases h2 with ⟨rfl, v, hv, rfl⟩ | ⟨rfl, h2⟩
      · rw [ix_in hv (by omega)] at hR
        refine jr_if_ne (tgt := 16) C d_X_narrower_11 (by decide) (fun e2 => ?_) (fun e2 => ?_)
        · have fin : ∀ p, p ≤ 100 → b = en_p p → (p < 100 → ¬ ab_o (a_par a f) p v) → (∀ r u pc pl2, decode b_X_narrower pc = .ok (.ireturn, 1) → narrow .int (.int r) = .int r → r = nI 1 ∧ rx_r (a_nar a f v p) u → fx_J X (w_X q k u) pc pl2 [.int r]) → fx_J X (w_X q k σ) 40 [some (.ref (q 0)), some (.int (nI f)), some (.int (nI v)), some (.int b)] [] := by
            intro p hp hb hnr hR
            rw [hb]
            have hw2 := wf_nar hw hv hp hnr
            have hbr : ∀ u, u < 100 → upd (x_bro σ) (f * 100 + v) (en_p p) (f * 100 + u) = en_p (a_par (a_nar a f v p) f u) := by
              intro u hu
              show _ = en_p (if f = f ∧ u = v then p else a_par a f u)
              by_cases e : u = v
              · subst e
                rw [pk_us, if_pos ⟨rfl, rfl⟩]
              · rw [pk_un (by omega), if_neg (fun q => e q.2)]
                exact hx.2.2.2.2.1 f u hf hu
            refine jr_aload_0 C d_X_narrower_40 ?_
            refine gX_broaderOf C d_X_narrower_41 ?_
            refine jr_iload_1 C d_X_narrower_44 ?_
            refine jr_iload_2 C d_X_narrower_45 ?_
            refine kX_cell C ⟨Nat.le_of_ble_eq_true rfl, Nat.le_of_ble_eq_true rfl⟩ (Nat.le_of_ble_eq_true rfl) d_X_narrower_46 ?_
            refine jr_iload_3 C d_X_narrower_49 ?_
            refine sX_broaderOf C (by omega) d_X_narrower_50 ?_
            refine jr_aload_0 C d_X_narrower_51 ?_
            refine jr_iload_1 C d_X_narrower_52 ?_
            refine qX_X_raiseAll C (cX_raiseAll l D q k _ (a_par (a_nar a f v p) f) (hw2.2.2.2.2 f) f hf hbr) rfl ⟨Nat.le_of_ble_eq_true rfl, Nat.le_of_ble_eq_true rfl⟩ (Nat.le_of_ble_eq_true rfl) d_X_narrower_53 (fun u hu => ?_)
            obtain ⟨h, rfl, hh, ho⟩ := hu
            refine jr_iconst (v := nI 1) C d_X_narrower_56 (by decide) ?_
            exact hR _ _ _ _ d_X_narrower_57 rfl ⟨rfl, px_nar hx hv hh ho⟩
          refine jr_iload_3 C d_X_narrower_16 ?_
          refine jr_iconst (v := -1) C d_X_narrower_17 (by decide) ?_
          refine jr_icmp_eq (tgt := 40) C d_X_narrower_18 (by decide) (fun e3 => ?_) (fun e3 => ?_)
          · subst e3
            exact fin 100 (by omega) (by rfl) (fun q => by omega) hR
          · dsimp only at hR
            rw [if_neg e3] at hR
            refine jr_iload_3 C d_X_narrower_21 ?_
            refine qX_X_isValue C (cX_isValue l D (ty_X k) (w_X q k) σ b) ⟨Nat.le_of_ble_eq_true rfl, Nat.le_of_ble_eq_true rfl⟩ (Nat.le_of_ble_eq_true rfl) d_X_narrower_22 (fx_p (fun z4 h4 => ?_))
            rcases h4 with ⟨rfl, p, hp, rfl⟩ | ⟨rfl, h4⟩
            · rw [ix_in hp (by omega)] at hR
              refine jr_if_eq (tgt := 38) C d_X_narrower_25 (by decide) (fun e4 => ?_) (fun e4 => ?_)
              · exact absurd e4 (by decide)
              · refine jr_aload_0 C d_X_narrower_28 ?_
                refine jr_iload_1 C d_X_narrower_29 ?_
                refine jr_iload_3 C d_X_narrower_30 ?_
                refine jr_iload_2 C d_X_narrower_31 ?_
                refine qX_X_isAtOrBelow C (cX_isAtOrBelow l D q k σ (a_par a f) (hw.2.2.2.2 f) f p v hf hp hv (fun u hu => hx.2.2.2.2.1 f u hf hu)) rfl ⟨Nat.le_of_ble_eq_true rfl, Nat.le_of_ble_eq_true rfl⟩ (Nat.le_of_ble_eq_true rfl) d_X_narrower_32 (fx_p (fun z5 h5 => ?_))
                rw [h5]
                refine jr_if_eq (tgt := 40) C d_X_narrower_35 (by decide) (fun e5 => ?_) (fun e5 => ?_)
                · rw [b01_eq] at e5
                  dsimp only at hR
                  rw [if_neg (by rw [e5]; decide)] at hR
                  exact fin p (by omega) (en_in hp).symm (fun _ => bx_neg.mp e5) hR
                · rw [b01_ne] at e5
                  dsimp only at hR
                  rw [if_pos e5] at hR
                  refine jr_iconst (v := nI 0) C d_X_narrower_38 (by decide) ?_
                  exact hR _ _ _ _ d_X_narrower_39 rfl ⟨rfl, hx⟩
            · rw [ix_no (by omega) h4] at hR
              refine jr_if_eq (tgt := 38) C d_X_narrower_25 (by decide) (fun e4 => ?_) (fun e4 => ?_)
              · refine jr_iconst (v := nI 0) C d_X_narrower_38 (by decide) ?_
                exact hR _ _ _ _ d_X_narrower_39 rfl ⟨rfl, hx⟩
              · exact absurd nI_0 e4
        · exact absurd e2 (by decide)
      · rw [ix_no (by omega) h2] at hR
        refine jr_if_ne (tgt := 16) C d_X_narrower_11 (by decide) (fun e2 => ?_) (fun e2 => ?_)
        · exact absurd nI_0 e2
        · refine jr_iconst (v := nI 0) C d_X_narrower_14 (by decide) ?_
          exact hR _ _ _ _ d_X_narrower_15 rfl ⟨rfl, hx⟩
  · rw [ix_no (by omega) h1] at hR
    refine jr_if_eq (tgt := 14) C d_X_narrower_4 (by decide) (fun e1 => ?_) (fun e1 => ?_)
    · refine jr_iconst (v := nI 0) C d_X_narrower_14 (by decide) ?_
      exact hR _ _ _ _ d_X_narrower_15 rfl ⟨rfl, hx⟩
    · exact absurd nI_0 e1
end PX3
end
section
theorem d_M_init_0 : decode b_M_init 0 = .ok (.aload_n 0, 1) := by decide +kernel
theorem d_M_init_1 : decode b_M_init 1 = .ok (.invokespecial 1, 3) := by decide +kernel
theorem d_M_init_4 : decode b_M_init 4 = .ok (.aload_n 0, 1) := by decide +kernel
theorem d_M_init_5 : decode b_M_init 5 = .ok (.sipush 1200, 3) := by decide +kernel
theorem d_M_init_8 : decode b_M_init 8 = .ok (.newarray .int, 2) := by decide +kernel
theorem d_M_init_10 : decode b_M_init 10 = .ok (.putfield 7, 3) := by decide +kernel
theorem d_M_init_13 : decode b_M_init 13 = .ok (.aload_n 0, 1) := by decide +kernel
theorem d_M_init_14 : decode b_M_init 14 = .ok (.sipush 600, 3) := by decide +kernel
theorem d_M_init_17 : decode b_M_init 17 = .ok (.newarray .int, 2) := by decide +kernel
theorem d_M_init_19 : decode b_M_init 19 = .ok (.putfield 13, 3) := by decide +kernel
theorem d_M_init_22 : decode b_M_init 22 = .ok (.aload_n 0, 1) := by decide +kernel
theorem d_M_init_23 : decode b_M_init 23 = .ok (.bipush 61, 2) := by decide +kernel
theorem d_M_init_25 : decode b_M_init 25 = .ok (.newarray .boolean, 2) := by decide +kernel
theorem d_M_init_27 : decode b_M_init 27 = .ok (.putfield 16, 3) := by decide +kernel
theorem d_M_init_30 : decode b_M_init 30 = .ok (.aload_n 0, 1) := by decide +kernel
theorem d_M_init_31 : decode b_M_init 31 = .ok (.sipush 600, 3) := by decide +kernel
theorem d_M_init_34 : decode b_M_init 34 = .ok (.newarray .boolean, 2) := by decide +kernel
theorem d_M_init_36 : decode b_M_init 36 = .ok (.putfield 20, 3) := by decide +kernel
theorem d_M_init_39 : decode b_M_init 39 = .ok (.aload_n 0, 1) := by decide +kernel
theorem d_M_init_40 : decode b_M_init 40 = .ok (.bipush 100, 2) := by decide +kernel
theorem d_M_init_42 : decode b_M_init 42 = .ok (.newarray .int, 2) := by decide +kernel
theorem d_M_init_44 : decode b_M_init 44 = .ok (.putfield 23, 3) := by decide +kernel
theorem d_M_init_47 : decode b_M_init 47 = .ok (.aload_n 0, 1) := by decide +kernel
theorem d_M_init_48 : decode b_M_init 48 = .ok (.bipush 100, 2) := by decide +kernel
theorem d_M_init_50 : decode b_M_init 50 = .ok (.newarray .int, 2) := by decide +kernel
theorem d_M_init_52 : decode b_M_init 52 = .ok (.putfield 26, 3) := by decide +kernel
theorem d_M_init_55 : decode b_M_init 55 = .ok (.aload_n 0, 1) := by decide +kernel
theorem d_M_init_56 : decode b_M_init 56 = .ok (.bipush 6, 2) := by decide +kernel
theorem d_M_init_58 : decode b_M_init 58 = .ok (.newarray .boolean, 2) := by decide +kernel
theorem d_M_init_60 : decode b_M_init 60 = .ok (.putfield 29, 3) := by decide +kernel
theorem d_M_init_63 : decode b_M_init 63 = .ok (.aload_n 0, 1) := by decide +kernel
theorem d_M_init_64 : decode b_M_init 64 = .ok (.sipush 366, 3) := by decide +kernel
theorem d_M_init_67 : decode b_M_init 67 = .ok (.newarray .boolean, 2) := by decide +kernel
theorem d_M_init_69 : decode b_M_init 69 = .ok (.putfield 32, 3) := by decide +kernel
theorem d_M_init_72 : decode b_M_init 72 = .ok (.aload_n 0, 1) := by decide +kernel
theorem d_M_init_73 : decode b_M_init 73 = .ok (.bipush 61, 2) := by decide +kernel
theorem d_M_init_75 : decode b_M_init 75 = .ok (.newarray .boolean, 2) := by decide +kernel
theorem d_M_init_77 : decode b_M_init 77 = .ok (.putfield 35, 3) := by decide +kernel
theorem d_M_init_80 : decode b_M_init 80 = .ok (.iconst 0, 1) := by decide +kernel
theorem d_M_init_81 : decode b_M_init 81 = .ok (.istore_n 1, 1) := by decide +kernel
theorem d_M_init_82 : decode b_M_init 82 = .ok (.iload_n 1, 1) := by decide +kernel
theorem d_M_init_83 : decode b_M_init 83 = .ok (.sipush 600, 3) := by decide +kernel
theorem d_M_init_86 : decode b_M_init 86 = .ok (.if_icmp .ge 16, 3) := by decide +kernel
theorem d_M_init_89 : decode b_M_init 89 = .ok (.aload_n 0, 1) := by decide +kernel
theorem d_M_init_90 : decode b_M_init 90 = .ok (.getfield 13, 3) := by decide +kernel
theorem d_M_init_93 : decode b_M_init 93 = .ok (.iload_n 1, 1) := by decide +kernel
theorem d_M_init_94 : decode b_M_init 94 = .ok (.iconst (-1), 1) := by decide +kernel
theorem d_M_init_95 : decode b_M_init 95 = .ok (.iastore, 1) := by decide +kernel
theorem d_M_init_96 : decode b_M_init 96 = .ok (.iinc 1 1, 3) := by decide +kernel
theorem d_M_init_99 : decode b_M_init 99 = .ok (.goto (-17), 3) := by decide +kernel
theorem d_M_init_102 : decode b_M_init 102 = .ok (.return_, 1) := by decide +kernel
theorem d_M_thrown_0 : decode b_M_thrown 0 = .ok (.aload_n 0, 1) := by decide +kernel
theorem d_M_thrown_1 : decode b_M_thrown 1 = .ok (.getfield 38, 3) := by decide +kernel
theorem d_M_thrown_4 : decode b_M_thrown 4 = .ok (.ireturn, 1) := by decide +kernel
theorem d_M_record_0 : decode b_M_record 0 = .ok (.aload_n 0, 1) := by decide +kernel
theorem d_M_record_1 : decode b_M_record 1 = .ok (.iconst 0, 1) := by decide +kernel
theorem d_M_record_2 : decode b_M_record 2 = .ok (.putfield 38, 3) := by decide +kernel
theorem d_M_record_5 : decode b_M_record 5 = .ok (.aload_n 0, 1) := by decide +kernel
theorem d_M_record_6 : decode b_M_record 6 = .ok (.getfield 42, 3) := by decide +kernel
theorem d_M_record_9 : decode b_M_record 9 = .ok (.bipush 60, 2) := by decide +kernel
theorem d_M_record_11 : decode b_M_record 11 = .ok (.if_icmp .ne 5, 3) := by decide +kernel
theorem d_M_record_14 : decode b_M_record 14 = .ok (.iconst 0, 1) := by decide +kernel
theorem d_M_record_15 : decode b_M_record 15 = .ok (.ireturn, 1) := by decide +kernel
theorem d_M_record_16 : decode b_M_record 16 = .ok (.aload_n 0, 1) := by decide +kernel
theorem d_M_record_17 : decode b_M_record 17 = .ok (.dup, 1) := by decide +kernel
theorem d_M_record_18 : decode b_M_record 18 = .ok (.getfield 42, 3) := by decide +kernel
theorem d_M_record_21 : decode b_M_record 21 = .ok (.iconst 1, 1) := by decide +kernel
theorem d_M_record_22 : decode b_M_record 22 = .ok (.iadd, 1) := by decide +kernel
theorem d_M_record_23 : decode b_M_record 23 = .ok (.putfield 42, 3) := by decide +kernel
theorem d_M_record_26 : decode b_M_record 26 = .ok (.aload_n 0, 1) := by decide +kernel
theorem d_M_record_27 : decode b_M_record 27 = .ok (.getfield 42, 3) := by decide +kernel
theorem d_M_record_30 : decode b_M_record 30 = .ok (.ireturn, 1) := by decide +kernel
theorem d_M_value_0 : decode b_M_value 0 = .ok (.aload_n 0, 1) := by decide +kernel
theorem d_M_value_1 : decode b_M_value 1 = .ok (.iconst 0, 1) := by decide +kernel
theorem d_M_value_2 : decode b_M_value 2 = .ok (.putfield 38, 3) := by decide +kernel
theorem d_M_value_5 : decode b_M_value 5 = .ok (.aload_n 0, 1) := by decide +kernel
theorem d_M_value_6 : decode b_M_value 6 = .ok (.iload_n 1, 1) := by decide +kernel
theorem d_M_value_7 : decode b_M_value 7 = .ok (.invokevirtual 52, 3) := by decide +kernel
theorem d_M_value_10 : decode b_M_value 10 = .ok (.ifCond .eq 32, 3) := by decide +kernel
theorem d_M_value_13 : decode b_M_value 13 = .ok (.iload_n 2, 1) := by decide +kernel
theorem d_M_value_14 : decode b_M_value 14 = .ok (.iload_n 3, 1) := by decide +kernel
theorem d_M_value_15 : decode b_M_value 15 = .ok (.invokestatic 55, 3) := by decide +kernel
theorem d_M_value_18 : decode b_M_value 18 = .ok (.ifCond .eq 24, 3) := by decide +kernel
theorem d_M_value_21 : decode b_M_value 21 = .ok (.aload_n 0, 1) := by decide +kernel
theorem d_M_value_22 : decode b_M_value 22 = .ok (.iload_n 1, 1) := by decide +kernel
theorem d_M_value_23 : decode b_M_value 23 = .ok (.iload_n 2, 1) := by decide +kernel
theorem d_M_value_24 : decode b_M_value 24 = .ok (.iload_n 3, 1) := by decide +kernel
theorem d_M_value_25 : decode b_M_value 25 = .ok (.invokevirtual 59, 3) := by decide +kernel
theorem d_M_value_28 : decode b_M_value 28 = .ok (.iconst (-1), 1) := by decide +kernel
theorem d_M_value_29 : decode b_M_value 29 = .ok (.if_icmp .ne 13, 3) := by decide +kernel
theorem d_M_value_32 : decode b_M_value 32 = .ok (.aload_n 0, 1) := by decide +kernel
theorem d_M_value_33 : decode b_M_value 33 = .ok (.getfield 49, 3) := by decide +kernel
theorem d_M_value_36 : decode b_M_value 36 = .ok (.sipush 400, 3) := by decide +kernel
theorem d_M_value_39 : decode b_M_value 39 = .ok (.if_icmp .ne 5, 3) := by decide +kernel
theorem d_M_value_42 : decode b_M_value 42 = .ok (.iconst 0, 1) := by decide +kernel
theorem d_M_value_43 : decode b_M_value 43 = .ok (.ireturn, 1) := by decide +kernel
theorem d_M_value_44 : decode b_M_value 44 = .ok (.aload_n 0, 1) := by decide +kernel
theorem d_M_value_45 : decode b_M_value 45 = .ok (.getfield 7, 3) := by decide +kernel
theorem d_M_value_48 : decode b_M_value 48 = .ok (.iconst 3, 1) := by decide +kernel
theorem d_M_value_49 : decode b_M_value 49 = .ok (.aload_n 0, 1) := by decide +kernel
theorem d_M_value_50 : decode b_M_value 50 = .ok (.getfield 49, 3) := by decide +kernel
theorem d_M_value_53 : decode b_M_value 53 = .ok (.imul, 1) := by decide +kernel
theorem d_M_value_54 : decode b_M_value 54 = .ok (.iload_n 1, 1) := by decide +kernel
theorem d_M_value_55 : decode b_M_value 55 = .ok (.iastore, 1) := by decide +kernel
theorem d_M_value_56 : decode b_M_value 56 = .ok (.aload_n 0, 1) := by decide +kernel
theorem d_M_value_57 : decode b_M_value 57 = .ok (.getfield 7, 3) := by decide +kernel
theorem d_M_value_60 : decode b_M_value 60 = .ok (.iconst 3, 1) := by decide +kernel
theorem d_M_value_61 : decode b_M_value 61 = .ok (.aload_n 0, 1) := by decide +kernel
theorem d_M_value_62 : decode b_M_value 62 = .ok (.getfield 49, 3) := by decide +kernel
theorem d_M_value_65 : decode b_M_value 65 = .ok (.imul, 1) := by decide +kernel
theorem d_M_value_66 : decode b_M_value 66 = .ok (.iconst 1, 1) := by decide +kernel
theorem d_M_value_67 : decode b_M_value 67 = .ok (.iadd, 1) := by decide +kernel
theorem d_M_value_68 : decode b_M_value 68 = .ok (.iload_n 2, 1) := by decide +kernel
theorem d_M_value_69 : decode b_M_value 69 = .ok (.iastore, 1) := by decide +kernel
theorem d_M_value_70 : decode b_M_value 70 = .ok (.aload_n 0, 1) := by decide +kernel
theorem d_M_value_71 : decode b_M_value 71 = .ok (.getfield 7, 3) := by decide +kernel
theorem d_M_value_74 : decode b_M_value 74 = .ok (.iconst 3, 1) := by decide +kernel
theorem d_M_value_75 : decode b_M_value 75 = .ok (.aload_n 0, 1) := by decide +kernel
theorem d_M_value_76 : decode b_M_value 76 = .ok (.getfield 49, 3) := by decide +kernel
theorem d_M_value_79 : decode b_M_value 79 = .ok (.imul, 1) := by decide +kernel
theorem d_M_value_80 : decode b_M_value 80 = .ok (.iconst 2, 1) := by decide +kernel
theorem d_M_value_81 : decode b_M_value 81 = .ok (.iadd, 1) := by decide +kernel
theorem d_M_value_82 : decode b_M_value 82 = .ok (.iload_n 3, 1) := by decide +kernel
theorem d_M_value_83 : decode b_M_value 83 = .ok (.iastore, 1) := by decide +kernel
theorem d_M_value_84 : decode b_M_value 84 = .ok (.aload_n 0, 1) := by decide +kernel
theorem d_M_value_85 : decode b_M_value 85 = .ok (.dup, 1) := by decide +kernel
theorem d_M_value_86 : decode b_M_value 86 = .ok (.getfield 49, 3) := by decide +kernel
theorem d_M_value_89 : decode b_M_value 89 = .ok (.iconst 1, 1) := by decide +kernel
theorem d_M_value_90 : decode b_M_value 90 = .ok (.iadd, 1) := by decide +kernel
theorem d_M_value_91 : decode b_M_value 91 = .ok (.putfield 49, 3) := by decide +kernel
theorem d_M_value_94 : decode b_M_value 94 = .ok (.iconst 0, 1) := by decide +kernel
theorem d_M_value_95 : decode b_M_value 95 = .ok (.istore 4, 2) := by decide +kernel
theorem d_M_value_97 : decode b_M_value 97 = .ok (.iconst 0, 1) := by decide +kernel
theorem d_M_value_98 : decode b_M_value 98 = .ok (.istore 5, 2) := by decide +kernel
theorem d_M_value_100 : decode b_M_value 100 = .ok (.iload 5, 2) := by decide +kernel
theorem d_M_value_102 : decode b_M_value 102 = .ok (.aload_n 0, 1) := by decide +kernel
theorem d_M_value_103 : decode b_M_value 103 = .ok (.getfield 49, 3) := by decide +kernel
theorem d_M_value_106 : decode b_M_value 106 = .ok (.if_icmp .ge 47, 3) := by decide +kernel
theorem d_M_value_109 : decode b_M_value 109 = .ok (.iload 4, 2) := by decide +kernel
theorem d_M_value_111 : decode b_M_value 111 = .ok (.aload_n 0, 1) := by decide +kernel
theorem d_M_value_112 : decode b_M_value 112 = .ok (.getfield 7, 3) := by decide +kernel
theorem d_M_value_115 : decode b_M_value 115 = .ok (.iconst 3, 1) := by decide +kernel
theorem d_M_value_116 : decode b_M_value 116 = .ok (.iload 5, 2) := by decide +kernel
theorem d_M_value_118 : decode b_M_value 118 = .ok (.imul, 1) := by decide +kernel
theorem d_M_value_119 : decode b_M_value 119 = .ok (.iaload, 1) := by decide +kernel
theorem d_M_value_120 : decode b_M_value 120 = .ok (.iload_n 1, 1) := by decide +kernel
theorem d_M_value_121 : decode b_M_value 121 = .ok (.if_icmp .ne 22, 3) := by decide +kernel
theorem d_M_value_124 : decode b_M_value 124 = .ok (.aload_n 0, 1) := by decide +kernel
theorem d_M_value_125 : decode b_M_value 125 = .ok (.getfield 7, 3) := by decide +kernel
theorem d_M_value_128 : decode b_M_value 128 = .ok (.iconst 3, 1) := by decide +kernel
theorem d_M_value_129 : decode b_M_value 129 = .ok (.iload 5, 2) := by decide +kernel
theorem d_M_value_131 : decode b_M_value 131 = .ok (.imul, 1) := by decide +kernel
theorem d_M_value_132 : decode b_M_value 132 = .ok (.iconst 1, 1) := by decide +kernel
theorem d_M_value_133 : decode b_M_value 133 = .ok (.iadd, 1) := by decide +kernel
theorem d_M_value_134 : decode b_M_value 134 = .ok (.iaload, 1) := by decide +kernel
theorem d_M_value_135 : decode b_M_value 135 = .ok (.iload_n 2, 1) := by decide +kernel
theorem d_M_value_136 : decode b_M_value 136 = .ok (.if_icmp .ne 7, 3) := by decide +kernel
theorem d_M_value_139 : decode b_M_value 139 = .ok (.iconst 1, 1) := by decide +kernel
theorem d_M_value_140 : decode b_M_value 140 = .ok (.goto 4, 3) := by decide +kernel
theorem d_M_value_143 : decode b_M_value 143 = .ok (.iconst 0, 1) := by decide +kernel
theorem d_M_value_144 : decode b_M_value 144 = .ok (.iadd, 1) := by decide +kernel
theorem d_M_value_145 : decode b_M_value 145 = .ok (.istore 4, 2) := by decide +kernel
theorem d_M_value_147 : decode b_M_value 147 = .ok (.iinc 5 1, 3) := by decide +kernel
theorem d_M_value_150 : decode b_M_value 150 = .ok (.goto (-50), 3) := by decide +kernel
theorem d_M_value_153 : decode b_M_value 153 = .ok (.iload 4, 2) := by decide +kernel
theorem d_M_value_155 : decode b_M_value 155 = .ok (.ireturn, 1) := by decide +kernel
theorem d_M_isRecord_0 : decode b_M_isRecord 0 = .ok (.iload_n 1, 1) := by decide +kernel
theorem d_M_isRecord_1 : decode b_M_isRecord 1 = .ok (.ifCond .le 15, 3) := by decide +kernel
theorem d_M_isRecord_4 : decode b_M_isRecord 4 = .ok (.iload_n 1, 1) := by decide +kernel
theorem d_M_isRecord_5 : decode b_M_isRecord 5 = .ok (.aload_n 0, 1) := by decide +kernel
theorem d_M_isRecord_6 : decode b_M_isRecord 6 = .ok (.getfield 42, 3) := by decide +kernel
theorem d_M_isRecord_9 : decode b_M_isRecord 9 = .ok (.if_icmp .gt 7, 3) := by decide +kernel
theorem d_M_isRecord_12 : decode b_M_isRecord 12 = .ok (.iconst 1, 1) := by decide +kernel
theorem d_M_isRecord_13 : decode b_M_isRecord 13 = .ok (.goto 4, 3) := by decide +kernel
theorem d_M_isRecord_16 : decode b_M_isRecord 16 = .ok (.iconst 0, 1) := by decide +kernel
theorem d_M_isRecord_17 : decode b_M_isRecord 17 = .ok (.ireturn, 1) := by decide +kernel
theorem d_M_isValue_0 : decode b_M_isValue 0 = .ok (.iload_n 0, 1) := by decide +kernel
theorem d_M_isValue_1 : decode b_M_isValue 1 = .ok (.invokestatic 45, 3) := by decide +kernel
theorem d_M_isValue_4 : decode b_M_isValue 4 = .ok (.ifCond .eq 17, 3) := by decide +kernel
theorem d_M_isValue_7 : decode b_M_isValue 7 = .ok (.iload_n 1, 1) := by decide +kernel
theorem d_M_isValue_8 : decode b_M_isValue 8 = .ok (.ifCond .lt 13, 3) := by decide +kernel
theorem d_M_isValue_11 : decode b_M_isValue 11 = .ok (.iload_n 1, 1) := by decide +kernel
theorem d_M_isValue_12 : decode b_M_isValue 12 = .ok (.bipush 100, 2) := by decide +kernel
theorem d_M_isValue_14 : decode b_M_isValue 14 = .ok (.if_icmp .ge 7, 3) := by decide +kernel
theorem d_M_isValue_17 : decode b_M_isValue 17 = .ok (.iconst 1, 1) := by decide +kernel
theorem d_M_isValue_18 : decode b_M_isValue 18 = .ok (.goto 4, 3) := by decide +kernel
theorem d_M_isValue_21 : decode b_M_isValue 21 = .ok (.iconst 0, 1) := by decide +kernel
theorem d_M_isValue_22 : decode b_M_isValue 22 = .ok (.ireturn, 1) := by decide +kernel
theorem d_M_isFacet_0 : decode b_M_isFacet 0 = .ok (.iload_n 0, 1) := by decide +kernel
theorem d_M_isFacet_1 : decode b_M_isFacet 1 = .ok (.ifCond .lt 13, 3) := by decide +kernel
theorem d_M_isFacet_4 : decode b_M_isFacet 4 = .ok (.iload_n 0, 1) := by decide +kernel
theorem d_M_isFacet_5 : decode b_M_isFacet 5 = .ok (.bipush 6, 2) := by decide +kernel
theorem d_M_isFacet_7 : decode b_M_isFacet 7 = .ok (.if_icmp .ge 7, 3) := by decide +kernel
theorem d_M_isFacet_10 : decode b_M_isFacet 10 = .ok (.iconst 1, 1) := by decide +kernel
theorem d_M_isFacet_11 : decode b_M_isFacet 11 = .ok (.goto 4, 3) := by decide +kernel
theorem d_M_isFacet_14 : decode b_M_isFacet 14 = .ok (.iconst 0, 1) := by decide +kernel
theorem d_M_isFacet_15 : decode b_M_isFacet 15 = .ok (.ireturn, 1) := by decide +kernel
theorem d_M_find_0 : decode b_M_find 0 = .ok (.iconst 0, 1) := by decide +kernel
theorem d_M_find_1 : decode b_M_find 1 = .ok (.istore 4, 2) := by decide +kernel
theorem d_M_find_3 : decode b_M_find 3 = .ok (.iload 4, 2) := by decide +kernel
theorem d_M_find_5 : decode b_M_find 5 = .ok (.aload_n 0, 1) := by decide +kernel
theorem d_M_find_6 : decode b_M_find 6 = .ok (.getfield 49, 3) := by decide +kernel
theorem d_M_find_9 : decode b_M_find 9 = .ok (.if_icmp .ge 55, 3) := by decide +kernel
theorem d_M_find_12 : decode b_M_find 12 = .ok (.aload_n 0, 1) := by decide +kernel
theorem d_M_find_13 : decode b_M_find 13 = .ok (.getfield 7, 3) := by decide +kernel
theorem d_M_find_16 : decode b_M_find 16 = .ok (.iconst 3, 1) := by decide +kernel
theorem d_M_find_17 : decode b_M_find 17 = .ok (.iload 4, 2) := by decide +kernel
theorem d_M_find_19 : decode b_M_find 19 = .ok (.imul, 1) := by decide +kernel
theorem d_M_find_20 : decode b_M_find 20 = .ok (.iaload, 1) := by decide +kernel
theorem d_M_find_21 : decode b_M_find 21 = .ok (.iload_n 1, 1) := by decide +kernel
theorem d_M_find_22 : decode b_M_find 22 = .ok (.if_icmp .ne 36, 3) := by decide +kernel
theorem d_M_find_25 : decode b_M_find 25 = .ok (.aload_n 0, 1) := by decide +kernel
theorem d_M_find_26 : decode b_M_find 26 = .ok (.getfield 7, 3) := by decide +kernel
theorem d_M_find_29 : decode b_M_find 29 = .ok (.iconst 3, 1) := by decide +kernel
theorem d_M_find_30 : decode b_M_find 30 = .ok (.iload 4, 2) := by decide +kernel
theorem d_M_find_32 : decode b_M_find 32 = .ok (.imul, 1) := by decide +kernel
theorem d_M_find_33 : decode b_M_find 33 = .ok (.iconst 1, 1) := by decide +kernel
theorem d_M_find_34 : decode b_M_find 34 = .ok (.iadd, 1) := by decide +kernel
theorem d_M_find_35 : decode b_M_find 35 = .ok (.iaload, 1) := by decide +kernel
theorem d_M_find_36 : decode b_M_find 36 = .ok (.iload_n 2, 1) := by decide +kernel
theorem d_M_find_37 : decode b_M_find 37 = .ok (.if_icmp .ne 21, 3) := by decide +kernel
theorem d_M_find_40 : decode b_M_find 40 = .ok (.aload_n 0, 1) := by decide +kernel
theorem d_M_find_41 : decode b_M_find 41 = .ok (.getfield 7, 3) := by decide +kernel
theorem d_M_find_44 : decode b_M_find 44 = .ok (.iconst 3, 1) := by decide +kernel
theorem d_M_find_45 : decode b_M_find 45 = .ok (.iload 4, 2) := by decide +kernel
theorem d_M_find_47 : decode b_M_find 47 = .ok (.imul, 1) := by decide +kernel
theorem d_M_find_48 : decode b_M_find 48 = .ok (.iconst 2, 1) := by decide +kernel
theorem d_M_find_49 : decode b_M_find 49 = .ok (.iadd, 1) := by decide +kernel
theorem d_M_find_50 : decode b_M_find 50 = .ok (.iaload, 1) := by decide +kernel
theorem d_M_find_51 : decode b_M_find 51 = .ok (.iload_n 3, 1) := by decide +kernel
theorem d_M_find_52 : decode b_M_find 52 = .ok (.if_icmp .ne 6, 3) := by decide +kernel
theorem d_M_find_55 : decode b_M_find 55 = .ok (.iload 4, 2) := by decide +kernel
theorem d_M_find_57 : decode b_M_find 57 = .ok (.ireturn, 1) := by decide +kernel
theorem d_M_find_58 : decode b_M_find 58 = .ok (.iinc 4 1, 3) := by decide +kernel
theorem d_M_find_61 : decode b_M_find 61 = .ok (.goto (-58), 3) := by decide +kernel
theorem d_M_find_64 : decode b_M_find 64 = .ok (.iconst (-1), 1) := by decide +kernel
theorem d_M_find_65 : decode b_M_find 65 = .ok (.ireturn, 1) := by decide +kernel
theorem d_M_gone_0 : decode b_M_gone 0 = .ok (.aload_n 0, 1) := by decide +kernel
theorem d_M_gone_1 : decode b_M_gone 1 = .ok (.iconst 0, 1) := by decide +kernel
theorem d_M_gone_2 : decode b_M_gone 2 = .ok (.putfield 38, 3) := by decide +kernel
theorem d_M_gone_5 : decode b_M_gone 5 = .ok (.aload_n 0, 1) := by decide +kernel
theorem d_M_gone_6 : decode b_M_gone 6 = .ok (.iload_n 1, 1) := by decide +kernel
theorem d_M_gone_7 : decode b_M_gone 7 = .ok (.iload_n 2, 1) := by decide +kernel
theorem d_M_gone_8 : decode b_M_gone 8 = .ok (.iload_n 3, 1) := by decide +kernel
theorem d_M_gone_9 : decode b_M_gone 9 = .ok (.invokevirtual 59, 3) := by decide +kernel
theorem d_M_gone_12 : decode b_M_gone 12 = .ok (.istore 4, 2) := by decide +kernel
theorem d_M_gone_14 : decode b_M_gone 14 = .ok (.iload 4, 2) := by decide +kernel
theorem d_M_gone_16 : decode b_M_gone 16 = .ok (.iconst (-1), 1) := by decide +kernel
theorem d_M_gone_17 : decode b_M_gone 17 = .ok (.if_icmp .ne 5, 3) := by decide +kernel
theorem d_M_gone_20 : decode b_M_gone 20 = .ok (.iconst 0, 1) := by decide +kernel
theorem d_M_gone_21 : decode b_M_gone 21 = .ok (.ireturn, 1) := by decide +kernel
theorem d_M_gone_22 : decode b_M_gone 22 = .ok (.aload_n 0, 1) := by decide +kernel
theorem d_M_gone_23 : decode b_M_gone 23 = .ok (.dup, 1) := by decide +kernel
theorem d_M_gone_24 : decode b_M_gone 24 = .ok (.getfield 49, 3) := by decide +kernel
theorem d_M_gone_27 : decode b_M_gone 27 = .ok (.iconst 1, 1) := by decide +kernel
theorem d_M_gone_28 : decode b_M_gone 28 = .ok (.isub, 1) := by decide +kernel
theorem d_M_gone_29 : decode b_M_gone 29 = .ok (.putfield 49, 3) := by decide +kernel
theorem d_M_gone_32 : decode b_M_gone 32 = .ok (.iconst 0, 1) := by decide +kernel
theorem d_M_gone_33 : decode b_M_gone 33 = .ok (.istore 5, 2) := by decide +kernel
theorem d_M_gone_35 : decode b_M_gone 35 = .ok (.iload 5, 2) := by decide +kernel
theorem d_M_gone_37 : decode b_M_gone 37 = .ok (.iconst 3, 1) := by decide +kernel
theorem d_M_gone_38 : decode b_M_gone 38 = .ok (.if_icmp .ge 35, 3) := by decide +kernel
theorem d_M_gone_41 : decode b_M_gone 41 = .ok (.aload_n 0, 1) := by decide +kernel
theorem d_M_gone_42 : decode b_M_gone 42 = .ok (.getfield 7, 3) := by decide +kernel
theorem d_M_gone_45 : decode b_M_gone 45 = .ok (.iconst 3, 1) := by decide +kernel
theorem d_M_gone_46 : decode b_M_gone 46 = .ok (.iload 4, 2) := by decide +kernel
theorem d_M_gone_48 : decode b_M_gone 48 = .ok (.imul, 1) := by decide +kernel
theorem d_M_gone_49 : decode b_M_gone 49 = .ok (.iload 5, 2) := by decide +kernel
theorem d_M_gone_51 : decode b_M_gone 51 = .ok (.iadd, 1) := by decide +kernel
theorem d_M_gone_52 : decode b_M_gone 52 = .ok (.aload_n 0, 1) := by decide +kernel
theorem d_M_gone_53 : decode b_M_gone 53 = .ok (.getfield 7, 3) := by decide +kernel
theorem d_M_gone_56 : decode b_M_gone 56 = .ok (.iconst 3, 1) := by decide +kernel
theorem d_M_gone_57 : decode b_M_gone 57 = .ok (.aload_n 0, 1) := by decide +kernel
theorem d_M_gone_58 : decode b_M_gone 58 = .ok (.getfield 49, 3) := by decide +kernel
theorem d_M_gone_61 : decode b_M_gone 61 = .ok (.imul, 1) := by decide +kernel
theorem d_M_gone_62 : decode b_M_gone 62 = .ok (.iload 5, 2) := by decide +kernel
theorem d_M_gone_64 : decode b_M_gone 64 = .ok (.iadd, 1) := by decide +kernel
theorem d_M_gone_65 : decode b_M_gone 65 = .ok (.iaload, 1) := by decide +kernel
theorem d_M_gone_66 : decode b_M_gone 66 = .ok (.iastore, 1) := by decide +kernel
theorem d_M_gone_67 : decode b_M_gone 67 = .ok (.iinc 5 1, 3) := by decide +kernel
theorem d_M_gone_70 : decode b_M_gone 70 = .ok (.goto (-35), 3) := by decide +kernel
theorem d_M_gone_73 : decode b_M_gone 73 = .ok (.iconst 1, 1) := by decide +kernel
theorem d_M_gone_74 : decode b_M_gone 74 = .ok (.ireturn, 1) := by decide +kernel
theorem d_M_narrower_0 : decode b_M_narrower 0 = .ok (.aload_n 0, 1) := by decide +kernel
theorem d_M_narrower_1 : decode b_M_narrower 1 = .ok (.iconst 0, 1) := by decide +kernel
theorem d_M_narrower_2 : decode b_M_narrower 2 = .ok (.putfield 38, 3) := by decide +kernel
theorem d_M_narrower_5 : decode b_M_narrower 5 = .ok (.iload_n 1, 1) := by decide +kernel
theorem d_M_narrower_6 : decode b_M_narrower 6 = .ok (.iload_n 2, 1) := by decide +kernel
theorem d_M_narrower_7 : decode b_M_narrower 7 = .ok (.invokestatic 55, 3) := by decide +kernel
theorem d_M_narrower_10 : decode b_M_narrower 10 = .ok (.ifCond .eq 26, 3) := by decide +kernel
theorem d_M_narrower_13 : decode b_M_narrower 13 = .ok (.iload_n 3, 1) := by decide +kernel
theorem d_M_narrower_14 : decode b_M_narrower 14 = .ok (.iconst (-1), 1) := by decide +kernel
theorem d_M_narrower_15 : decode b_M_narrower 15 = .ok (.if_icmp .eq 23, 3) := by decide +kernel
theorem d_M_narrower_18 : decode b_M_narrower 18 = .ok (.iload_n 1, 1) := by decide +kernel
theorem d_M_narrower_19 : decode b_M_narrower 19 = .ok (.iload_n 3, 1) := by decide +kernel
theorem d_M_narrower_20 : decode b_M_narrower 20 = .ok (.invokestatic 55, 3) := by decide +kernel
theorem d_M_narrower_23 : decode b_M_narrower 23 = .ok (.ifCond .eq 13, 3) := by decide +kernel
theorem d_M_narrower_26 : decode b_M_narrower 26 = .ok (.aload_n 0, 1) := by decide +kernel
theorem d_M_narrower_27 : decode b_M_narrower 27 = .ok (.iload_n 1, 1) := by decide +kernel
theorem d_M_narrower_28 : decode b_M_narrower 28 = .ok (.iload_n 3, 1) := by decide +kernel
theorem d_M_narrower_29 : decode b_M_narrower 29 = .ok (.iload_n 2, 1) := by decide +kernel
theorem d_M_narrower_30 : decode b_M_narrower 30 = .ok (.invokevirtual 63, 3) := by decide +kernel
theorem d_M_narrower_33 : decode b_M_narrower 33 = .ok (.ifCond .eq 5, 3) := by decide +kernel
theorem d_M_narrower_36 : decode b_M_narrower 36 = .ok (.iconst 0, 1) := by decide +kernel
theorem d_M_narrower_37 : decode b_M_narrower 37 = .ok (.ireturn, 1) := by decide +kernel
theorem d_M_narrower_38 : decode b_M_narrower 38 = .ok (.aload_n 0, 1) := by decide +kernel
theorem d_M_narrower_39 : decode b_M_narrower 39 = .ok (.getfield 13, 3) := by decide +kernel
theorem d_M_narrower_42 : decode b_M_narrower 42 = .ok (.bipush 100, 2) := by decide +kernel
theorem d_M_narrower_44 : decode b_M_narrower 44 = .ok (.iload_n 1, 1) := by decide +kernel
theorem d_M_narrower_45 : decode b_M_narrower 45 = .ok (.imul, 1) := by decide +kernel
theorem d_M_narrower_46 : decode b_M_narrower 46 = .ok (.iload_n 2, 1) := by decide +kernel
theorem d_M_narrower_47 : decode b_M_narrower 47 = .ok (.iadd, 1) := by decide +kernel
theorem d_M_narrower_48 : decode b_M_narrower 48 = .ok (.iload_n 3, 1) := by decide +kernel
theorem d_M_narrower_49 : decode b_M_narrower 49 = .ok (.iastore, 1) := by decide +kernel
theorem d_M_narrower_50 : decode b_M_narrower 50 = .ok (.iconst 1, 1) := by decide +kernel
theorem d_M_narrower_51 : decode b_M_narrower 51 = .ok (.ireturn, 1) := by decide +kernel
theorem d_M_lies_0 : decode b_M_lies 0 = .ok (.iload_n 2, 1) := by decide +kernel
theorem d_M_lies_1 : decode b_M_lies 1 = .ok (.istore 4, 2) := by decide +kernel
theorem d_M_lies_3 : decode b_M_lies 3 = .ok (.iload 4, 2) := by decide +kernel
theorem d_M_lies_5 : decode b_M_lies 5 = .ok (.iconst (-1), 1) := by decide +kernel
theorem d_M_lies_6 : decode b_M_lies 6 = .ok (.if_icmp .eq 26, 3) := by decide +kernel
theorem d_M_lies_9 : decode b_M_lies 9 = .ok (.iload 4, 2) := by decide +kernel
theorem d_M_lies_11 : decode b_M_lies 11 = .ok (.iload_n 3, 1) := by decide +kernel
theorem d_M_lies_12 : decode b_M_lies 12 = .ok (.if_icmp .eq 20, 3) := by decide +kernel
theorem d_M_lies_15 : decode b_M_lies 15 = .ok (.aload_n 0, 1) := by decide +kernel
theorem d_M_lies_16 : decode b_M_lies 16 = .ok (.getfield 13, 3) := by decide +kernel
theorem d_M_lies_19 : decode b_M_lies 19 = .ok (.bipush 100, 2) := by decide +kernel
theorem d_M_lies_21 : decode b_M_lies 21 = .ok (.iload_n 1, 1) := by decide +kernel
theorem d_M_lies_22 : decode b_M_lies 22 = .ok (.imul, 1) := by decide +kernel
theorem d_M_lies_23 : decode b_M_lies 23 = .ok (.iload 4, 2) := by decide +kernel
theorem d_M_lies_25 : decode b_M_lies 25 = .ok (.iadd, 1) := by decide +kernel
theorem d_M_lies_26 : decode b_M_lies 26 = .ok (.iaload, 1) := by decide +kernel
theorem d_M_lies_27 : decode b_M_lies 27 = .ok (.istore 4, 2) := by decide +kernel
theorem d_M_lies_29 : decode b_M_lies 29 = .ok (.goto (-26), 3) := by decide +kernel
theorem d_M_lies_32 : decode b_M_lies 32 = .ok (.iload 4, 2) := by decide +kernel
theorem d_M_lies_34 : decode b_M_lies 34 = .ok (.iload_n 3, 1) := by decide +kernel
theorem d_M_lies_35 : decode b_M_lies 35 = .ok (.if_icmp .ne 7, 3) := by decide +kernel
theorem d_M_lies_38 : decode b_M_lies 38 = .ok (.iconst 1, 1) := by decide +kernel
theorem d_M_lies_39 : decode b_M_lies 39 = .ok (.goto 4, 3) := by decide +kernel
theorem d_M_lies_42 : decode b_M_lies 42 = .ok (.iconst 0, 1) := by decide +kernel
theorem d_M_lies_43 : decode b_M_lies 43 = .ok (.ireturn, 1) := by decide +kernel
theorem d_M_hit_0 : decode b_M_hit 0 = .ok (.aload_n 0, 1) := by decide +kernel
theorem d_M_hit_1 : decode b_M_hit 1 = .ok (.iconst 0, 1) := by decide +kernel
theorem d_M_hit_2 : decode b_M_hit 2 = .ok (.putfield 38, 3) := by decide +kernel
theorem d_M_hit_5 : decode b_M_hit 5 = .ok (.aload_n 0, 1) := by decide +kernel
theorem d_M_hit_6 : decode b_M_hit 6 = .ok (.iload_n 1, 1) := by decide +kernel
theorem d_M_hit_7 : decode b_M_hit 7 = .ok (.invokevirtual 52, 3) := by decide +kernel
theorem d_M_hit_10 : decode b_M_hit 10 = .ok (.ifCond .ne 5, 3) := by decide +kernel
theorem d_M_hit_13 : decode b_M_hit 13 = .ok (.iconst (-1), 1) := by decide +kernel
theorem d_M_hit_14 : decode b_M_hit 14 = .ok (.ireturn, 1) := by decide +kernel
theorem d_M_hit_15 : decode b_M_hit 15 = .ok (.aload_n 0, 1) := by decide +kernel
theorem d_M_hit_16 : decode b_M_hit 16 = .ok (.getfield 16, 3) := by decide +kernel
theorem d_M_hit_19 : decode b_M_hit 19 = .ok (.iload_n 1, 1) := by decide +kernel
theorem d_M_hit_20 : decode b_M_hit 20 = .ok (.iload_n 2, 1) := by decide +kernel
theorem d_M_hit_21 : decode b_M_hit 21 = .ok (.bastore, 1) := by decide +kernel
theorem d_M_hit_22 : decode b_M_hit 22 = .ok (.iconst 0, 1) := by decide +kernel
theorem d_M_hit_23 : decode b_M_hit 23 = .ok (.istore_n 3, 1) := by decide +kernel
theorem d_M_hit_24 : decode b_M_hit 24 = .ok (.iconst 1, 1) := by decide +kernel
theorem d_M_hit_25 : decode b_M_hit 25 = .ok (.istore 4, 2) := by decide +kernel
theorem d_M_hit_27 : decode b_M_hit 27 = .ok (.iload 4, 2) := by decide +kernel
theorem d_M_hit_29 : decode b_M_hit 29 = .ok (.aload_n 0, 1) := by decide +kernel
theorem d_M_hit_30 : decode b_M_hit 30 = .ok (.getfield 42, 3) := by decide +kernel
theorem d_M_hit_33 : decode b_M_hit 33 = .ok (.if_icmp .gt 27, 3) := by decide +kernel
theorem d_M_hit_36 : decode b_M_hit 36 = .ok (.iload_n 3, 1) := by decide +kernel
theorem d_M_hit_37 : decode b_M_hit 37 = .ok (.aload_n 0, 1) := by decide +kernel
theorem d_M_hit_38 : decode b_M_hit 38 = .ok (.getfield 16, 3) := by decide +kernel
theorem d_M_hit_41 : decode b_M_hit 41 = .ok (.iload 4, 2) := by decide +kernel
theorem d_M_hit_43 : decode b_M_hit 43 = .ok (.baload, 1) := by decide +kernel
theorem d_M_hit_44 : decode b_M_hit 44 = .ok (.ifCond .eq 7, 3) := by decide +kernel
theorem d_M_hit_47 : decode b_M_hit 47 = .ok (.iconst 1, 1) := by decide +kernel
theorem d_M_hit_48 : decode b_M_hit 48 = .ok (.goto 4, 3) := by decide +kernel
theorem d_M_hit_51 : decode b_M_hit 51 = .ok (.iconst 0, 1) := by decide +kernel
theorem d_M_hit_52 : decode b_M_hit 52 = .ok (.iadd, 1) := by decide +kernel
theorem d_M_hit_53 : decode b_M_hit 53 = .ok (.istore_n 3, 1) := by decide +kernel
theorem d_M_hit_54 : decode b_M_hit 54 = .ok (.iinc 4 1, 3) := by decide +kernel
theorem d_M_hit_57 : decode b_M_hit 57 = .ok (.goto (-30), 3) := by decide +kernel
theorem d_M_hit_60 : decode b_M_hit 60 = .ok (.iload_n 3, 1) := by decide +kernel
theorem d_M_hit_61 : decode b_M_hit 61 = .ok (.ireturn, 1) := by decide +kernel
theorem d_M_choose_0 : decode b_M_choose 0 = .ok (.aload_n 0, 1) := by decide +kernel
theorem d_M_choose_1 : decode b_M_choose 1 = .ok (.iconst 0, 1) := by decide +kernel
theorem d_M_choose_2 : decode b_M_choose 2 = .ok (.putfield 38, 3) := by decide +kernel
theorem d_M_choose_5 : decode b_M_choose 5 = .ok (.iload_n 1, 1) := by decide +kernel
theorem d_M_choose_6 : decode b_M_choose 6 = .ok (.iload_n 2, 1) := by decide +kernel
theorem d_M_choose_7 : decode b_M_choose 7 = .ok (.invokestatic 55, 3) := by decide +kernel
theorem d_M_choose_10 : decode b_M_choose 10 = .ok (.ifCond .ne 5, 3) := by decide +kernel
theorem d_M_choose_13 : decode b_M_choose 13 = .ok (.iconst (-1), 1) := by decide +kernel
theorem d_M_choose_14 : decode b_M_choose 14 = .ok (.ireturn, 1) := by decide +kernel
theorem d_M_choose_15 : decode b_M_choose 15 = .ok (.aload_n 0, 1) := by decide +kernel
theorem d_M_choose_16 : decode b_M_choose 16 = .ok (.getfield 20, 3) := by decide +kernel
theorem d_M_choose_19 : decode b_M_choose 19 = .ok (.bipush 100, 2) := by decide +kernel
theorem d_M_choose_21 : decode b_M_choose 21 = .ok (.iload_n 1, 1) := by decide +kernel
theorem d_M_choose_22 : decode b_M_choose 22 = .ok (.imul, 1) := by decide +kernel
theorem d_M_choose_23 : decode b_M_choose 23 = .ok (.iload_n 2, 1) := by decide +kernel
theorem d_M_choose_24 : decode b_M_choose 24 = .ok (.iadd, 1) := by decide +kernel
theorem d_M_choose_25 : decode b_M_choose 25 = .ok (.aload_n 0, 1) := by decide +kernel
theorem d_M_choose_26 : decode b_M_choose 26 = .ok (.getfield 20, 3) := by decide +kernel
theorem d_M_choose_29 : decode b_M_choose 29 = .ok (.bipush 100, 2) := by decide +kernel
theorem d_M_choose_31 : decode b_M_choose 31 = .ok (.iload_n 1, 1) := by decide +kernel
theorem d_M_choose_32 : decode b_M_choose 32 = .ok (.imul, 1) := by decide +kernel
theorem d_M_choose_33 : decode b_M_choose 33 = .ok (.iload_n 2, 1) := by decide +kernel
theorem d_M_choose_34 : decode b_M_choose 34 = .ok (.iadd, 1) := by decide +kernel
theorem d_M_choose_35 : decode b_M_choose 35 = .ok (.baload, 1) := by decide +kernel
theorem d_M_choose_36 : decode b_M_choose 36 = .ok (.ifCond .ne 7, 3) := by decide +kernel
theorem d_M_choose_39 : decode b_M_choose 39 = .ok (.iconst 1, 1) := by decide +kernel
theorem d_M_choose_40 : decode b_M_choose 40 = .ok (.goto 4, 3) := by decide +kernel
theorem d_M_choose_43 : decode b_M_choose 43 = .ok (.iconst 0, 1) := by decide +kernel
theorem d_M_choose_44 : decode b_M_choose 44 = .ok (.bastore, 1) := by decide +kernel
theorem d_M_choose_45 : decode b_M_choose 45 = .ok (.aload_n 0, 1) := by decide +kernel
theorem d_M_choose_46 : decode b_M_choose 46 = .ok (.invokevirtual 70, 3) := by decide +kernel
theorem d_M_choose_49 : decode b_M_choose 49 = .ok (.aload_n 0, 1) := by decide +kernel
theorem d_M_choose_50 : decode b_M_choose 50 = .ok (.getfield 67, 3) := by decide +kernel
theorem d_M_choose_53 : decode b_M_choose 53 = .ok (.ireturn, 1) := by decide +kernel
theorem d_M_sort_0 : decode b_M_sort 0 = .ok (.iconst 0, 1) := by decide +kernel
theorem d_M_sort_1 : decode b_M_sort 1 = .ok (.istore_n 1, 1) := by decide +kernel
theorem d_M_sort_2 : decode b_M_sort 2 = .ok (.iload_n 1, 1) := by decide +kernel
theorem d_M_sort_3 : decode b_M_sort 3 = .ok (.bipush 6, 2) := by decide +kernel
theorem d_M_sort_5 : decode b_M_sort 5 = .ok (.if_icmp .ge 64, 3) := by decide +kernel
theorem d_M_sort_8 : decode b_M_sort 8 = .ok (.aload_n 0, 1) := by decide +kernel
theorem d_M_sort_9 : decode b_M_sort 9 = .ok (.getfield 29, 3) := by decide +kernel
theorem d_M_sort_12 : decode b_M_sort 12 = .ok (.iload_n 1, 1) := by decide +kernel
theorem d_M_sort_13 : decode b_M_sort 13 = .ok (.iconst 0, 1) := by decide +kernel
theorem d_M_sort_14 : decode b_M_sort 14 = .ok (.bastore, 1) := by decide +kernel
theorem d_M_sort_15 : decode b_M_sort 15 = .ok (.iconst 0, 1) := by decide +kernel
theorem d_M_sort_16 : decode b_M_sort 16 = .ok (.istore_n 2, 1) := by decide +kernel
theorem d_M_sort_17 : decode b_M_sort 17 = .ok (.iload_n 2, 1) := by decide +kernel
theorem d_M_sort_18 : decode b_M_sort 18 = .ok (.bipush 100, 2) := by decide +kernel
theorem d_M_sort_20 : decode b_M_sort 20 = .ok (.if_icmp .ge 43, 3) := by decide +kernel
theorem d_M_sort_23 : decode b_M_sort 23 = .ok (.aload_n 0, 1) := by decide +kernel
theorem d_M_sort_24 : decode b_M_sort 24 = .ok (.getfield 29, 3) := by decide +kernel
theorem d_M_sort_27 : decode b_M_sort 27 = .ok (.iload_n 1, 1) := by decide +kernel
theorem d_M_sort_28 : decode b_M_sort 28 = .ok (.aload_n 0, 1) := by decide +kernel
theorem d_M_sort_29 : decode b_M_sort 29 = .ok (.getfield 29, 3) := by decide +kernel
theorem d_M_sort_32 : decode b_M_sort 32 = .ok (.iload_n 1, 1) := by decide +kernel
theorem d_M_sort_33 : decode b_M_sort 33 = .ok (.baload, 1) := by decide +kernel
theorem d_M_sort_34 : decode b_M_sort 34 = .ok (.ifCond .ne 17, 3) := by decide +kernel
theorem d_M_sort_37 : decode b_M_sort 37 = .ok (.aload_n 0, 1) := by decide +kernel
theorem d_M_sort_38 : decode b_M_sort 38 = .ok (.getfield 20, 3) := by decide +kernel
theorem d_M_sort_41 : decode b_M_sort 41 = .ok (.bipush 100, 2) := by decide +kernel
theorem d_M_sort_43 : decode b_M_sort 43 = .ok (.iload_n 1, 1) := by decide +kernel
theorem d_M_sort_44 : decode b_M_sort 44 = .ok (.imul, 1) := by decide +kernel
theorem d_M_sort_45 : decode b_M_sort 45 = .ok (.iload_n 2, 1) := by decide +kernel
theorem d_M_sort_46 : decode b_M_sort 46 = .ok (.iadd, 1) := by decide +kernel
theorem d_M_sort_47 : decode b_M_sort 47 = .ok (.baload, 1) := by decide +kernel
theorem d_M_sort_48 : decode b_M_sort 48 = .ok (.ifCond .eq 7, 3) := by decide +kernel
theorem d_M_sort_51 : decode b_M_sort 51 = .ok (.iconst 1, 1) := by decide +kernel
theorem d_M_sort_52 : decode b_M_sort 52 = .ok (.goto 4, 3) := by decide +kernel
theorem d_M_sort_55 : decode b_M_sort 55 = .ok (.iconst 0, 1) := by decide +kernel
theorem d_M_sort_56 : decode b_M_sort 56 = .ok (.bastore, 1) := by decide +kernel
theorem d_M_sort_57 : decode b_M_sort 57 = .ok (.iinc 2 1, 3) := by decide +kernel
theorem d_M_sort_60 : decode b_M_sort 60 = .ok (.goto (-43), 3) := by decide +kernel
theorem d_M_sort_63 : decode b_M_sort 63 = .ok (.iinc 1 1, 3) := by decide +kernel
theorem d_M_sort_66 : decode b_M_sort 66 = .ok (.goto (-64), 3) := by decide +kernel
theorem d_M_sort_69 : decode b_M_sort 69 = .ok (.iconst 0, 1) := by decide +kernel
theorem d_M_sort_70 : decode b_M_sort 70 = .ok (.istore_n 1, 1) := by decide +kernel
theorem d_M_sort_71 : decode b_M_sort 71 = .ok (.iload_n 1, 1) := by decide +kernel
theorem d_M_sort_72 : decode b_M_sort 72 = .ok (.sipush 366, 3) := by decide +kernel
theorem d_M_sort_75 : decode b_M_sort 75 = .ok (.if_icmp .ge 16, 3) := by decide +kernel
theorem d_M_sort_78 : decode b_M_sort 78 = .ok (.aload_n 0, 1) := by decide +kernel
theorem d_M_sort_79 : decode b_M_sort 79 = .ok (.getfield 32, 3) := by decide +kernel
theorem d_M_sort_82 : decode b_M_sort 82 = .ok (.iload_n 1, 1) := by decide +kernel
theorem d_M_sort_83 : decode b_M_sort 83 = .ok (.iconst 0, 1) := by decide +kernel
theorem d_M_sort_84 : decode b_M_sort 84 = .ok (.bastore, 1) := by decide +kernel
theorem d_M_sort_85 : decode b_M_sort 85 = .ok (.iinc 1 1, 3) := by decide +kernel
theorem d_M_sort_88 : decode b_M_sort 88 = .ok (.goto (-17), 3) := by decide +kernel
theorem d_M_sort_91 : decode b_M_sort 91 = .ok (.iconst 0, 1) := by decide +kernel
theorem d_M_sort_92 : decode b_M_sort 92 = .ok (.istore_n 1, 1) := by decide +kernel
theorem d_M_sort_93 : decode b_M_sort 93 = .ok (.iload_n 1, 1) := by decide +kernel
theorem d_M_sort_94 : decode b_M_sort 94 = .ok (.aload_n 0, 1) := by decide +kernel
theorem d_M_sort_95 : decode b_M_sort 95 = .ok (.getfield 49, 3) := by decide +kernel
theorem d_M_sort_98 : decode b_M_sort 98 = .ok (.if_icmp .ge 109, 3) := by decide +kernel
theorem d_M_sort_101 : decode b_M_sort 101 = .ok (.aload_n 0, 1) := by decide +kernel
theorem d_M_sort_102 : decode b_M_sort 102 = .ok (.getfield 7, 3) := by decide +kernel
theorem d_M_sort_105 : decode b_M_sort 105 = .ok (.iconst 3, 1) := by decide +kernel
theorem d_M_sort_106 : decode b_M_sort 106 = .ok (.iload_n 1, 1) := by decide +kernel
theorem d_M_sort_107 : decode b_M_sort 107 = .ok (.imul, 1) := by decide +kernel
theorem d_M_sort_108 : decode b_M_sort 108 = .ok (.iconst 1, 1) := by decide +kernel
theorem d_M_sort_109 : decode b_M_sort 109 = .ok (.iadd, 1) := by decide +kernel
theorem d_M_sort_110 : decode b_M_sort 110 = .ok (.iaload, 1) := by decide +kernel
theorem d_M_sort_111 : decode b_M_sort 111 = .ok (.istore_n 2, 1) := by decide +kernel
theorem d_M_sort_112 : decode b_M_sort 112 = .ok (.aload_n 0, 1) := by decide +kernel
theorem d_M_sort_113 : decode b_M_sort 113 = .ok (.getfield 7, 3) := by decide +kernel
theorem d_M_sort_116 : decode b_M_sort 116 = .ok (.iconst 3, 1) := by decide +kernel
theorem d_M_sort_117 : decode b_M_sort 117 = .ok (.iload_n 1, 1) := by decide +kernel
theorem d_M_sort_118 : decode b_M_sort 118 = .ok (.imul, 1) := by decide +kernel
theorem d_M_sort_119 : decode b_M_sort 119 = .ok (.iconst 2, 1) := by decide +kernel
theorem d_M_sort_120 : decode b_M_sort 120 = .ok (.iadd, 1) := by decide +kernel
theorem d_M_sort_121 : decode b_M_sort 121 = .ok (.iaload, 1) := by decide +kernel
theorem d_M_sort_122 : decode b_M_sort 122 = .ok (.istore_n 3, 1) := by decide +kernel
theorem d_M_sort_123 : decode b_M_sort 123 = .ok (.iload_n 3, 1) := by decide +kernel
theorem d_M_sort_124 : decode b_M_sort 124 = .ok (.iconst (-1), 1) := by decide +kernel
theorem d_M_sort_125 : decode b_M_sort 125 = .ok (.if_icmp .eq 76, 3) := by decide +kernel
theorem d_M_sort_128 : decode b_M_sort 128 = .ok (.aload_n 0, 1) := by decide +kernel
theorem d_M_sort_129 : decode b_M_sort 129 = .ok (.getfield 32, 3) := by decide +kernel
theorem d_M_sort_132 : decode b_M_sort 132 = .ok (.bipush 6, 2) := by decide +kernel
theorem d_M_sort_134 : decode b_M_sort 134 = .ok (.aload_n 0, 1) := by decide +kernel
theorem d_M_sort_135 : decode b_M_sort 135 = .ok (.getfield 7, 3) := by decide +kernel
theorem d_M_sort_138 : decode b_M_sort 138 = .ok (.iconst 3, 1) := by decide +kernel
theorem d_M_sort_139 : decode b_M_sort 139 = .ok (.iload_n 1, 1) := by decide +kernel
theorem d_M_sort_140 : decode b_M_sort 140 = .ok (.imul, 1) := by decide +kernel
theorem d_M_sort_141 : decode b_M_sort 141 = .ok (.iaload, 1) := by decide +kernel
theorem d_M_sort_142 : decode b_M_sort 142 = .ok (.imul, 1) := by decide +kernel
theorem d_M_sort_143 : decode b_M_sort 143 = .ok (.iload_n 2, 1) := by decide +kernel
theorem d_M_sort_144 : decode b_M_sort 144 = .ok (.iadd, 1) := by decide +kernel
theorem d_M_sort_145 : decode b_M_sort 145 = .ok (.aload_n 0, 1) := by decide +kernel
theorem d_M_sort_146 : decode b_M_sort 146 = .ok (.getfield 32, 3) := by decide +kernel
theorem d_M_sort_149 : decode b_M_sort 149 = .ok (.bipush 6, 2) := by decide +kernel
theorem d_M_sort_151 : decode b_M_sort 151 = .ok (.aload_n 0, 1) := by decide +kernel
theorem d_M_sort_152 : decode b_M_sort 152 = .ok (.getfield 7, 3) := by decide +kernel
theorem d_M_sort_155 : decode b_M_sort 155 = .ok (.iconst 3, 1) := by decide +kernel
theorem d_M_sort_156 : decode b_M_sort 156 = .ok (.iload_n 1, 1) := by decide +kernel
theorem d_M_sort_157 : decode b_M_sort 157 = .ok (.imul, 1) := by decide +kernel
theorem d_M_sort_158 : decode b_M_sort 158 = .ok (.iaload, 1) := by decide +kernel
theorem d_M_sort_159 : decode b_M_sort 159 = .ok (.imul, 1) := by decide +kernel
theorem d_M_sort_160 : decode b_M_sort 160 = .ok (.iload_n 2, 1) := by decide +kernel
theorem d_M_sort_161 : decode b_M_sort 161 = .ok (.iadd, 1) := by decide +kernel
theorem d_M_sort_162 : decode b_M_sort 162 = .ok (.baload, 1) := by decide +kernel
theorem d_M_sort_163 : decode b_M_sort 163 = .ok (.ifCond .ne 17, 3) := by decide +kernel
theorem d_M_sort_166 : decode b_M_sort 166 = .ok (.aload_n 0, 1) := by decide +kernel
theorem d_M_sort_167 : decode b_M_sort 167 = .ok (.getfield 20, 3) := by decide +kernel
theorem d_M_sort_170 : decode b_M_sort 170 = .ok (.bipush 100, 2) := by decide +kernel
theorem d_M_sort_172 : decode b_M_sort 172 = .ok (.iload_n 2, 1) := by decide +kernel
theorem d_M_sort_173 : decode b_M_sort 173 = .ok (.imul, 1) := by decide +kernel
theorem d_M_sort_174 : decode b_M_sort 174 = .ok (.iload_n 3, 1) := by decide +kernel
theorem d_M_sort_175 : decode b_M_sort 175 = .ok (.iadd, 1) := by decide +kernel
theorem d_M_sort_176 : decode b_M_sort 176 = .ok (.baload, 1) := by decide +kernel
theorem d_M_sort_177 : decode b_M_sort 177 = .ok (.ifCond .eq 7, 3) := by decide +kernel
theorem d_M_sort_180 : decode b_M_sort 180 = .ok (.iconst 1, 1) := by decide +kernel
theorem d_M_sort_181 : decode b_M_sort 181 = .ok (.goto 4, 3) := by decide +kernel
theorem d_M_sort_184 : decode b_M_sort 184 = .ok (.iconst 0, 1) := by decide +kernel
theorem d_M_sort_185 : decode b_M_sort 185 = .ok (.bastore, 1) := by decide +kernel
theorem d_M_sort_186 : decode b_M_sort 186 = .ok (.aload_n 0, 1) := by decide +kernel
theorem d_M_sort_187 : decode b_M_sort 187 = .ok (.getfield 13, 3) := by decide +kernel
theorem d_M_sort_190 : decode b_M_sort 190 = .ok (.bipush 100, 2) := by decide +kernel
theorem d_M_sort_192 : decode b_M_sort 192 = .ok (.iload_n 2, 1) := by decide +kernel
theorem d_M_sort_193 : decode b_M_sort 193 = .ok (.imul, 1) := by decide +kernel
theorem d_M_sort_194 : decode b_M_sort 194 = .ok (.iload_n 3, 1) := by decide +kernel
theorem d_M_sort_195 : decode b_M_sort 195 = .ok (.iadd, 1) := by decide +kernel
theorem d_M_sort_196 : decode b_M_sort 196 = .ok (.iaload, 1) := by decide +kernel
theorem d_M_sort_197 : decode b_M_sort 197 = .ok (.istore_n 3, 1) := by decide +kernel
theorem d_M_sort_198 : decode b_M_sort 198 = .ok (.goto (-75), 3) := by decide +kernel
theorem d_M_sort_201 : decode b_M_sort 201 = .ok (.iinc 1 1, 3) := by decide +kernel
theorem d_M_sort_204 : decode b_M_sort 204 = .ok (.goto (-111), 3) := by decide +kernel
theorem d_M_sort_207 : decode b_M_sort 207 = .ok (.aload_n 0, 1) := by decide +kernel
theorem d_M_sort_208 : decode b_M_sort 208 = .ok (.iconst 0, 1) := by decide +kernel
theorem d_M_sort_209 : decode b_M_sort 209 = .ok (.putfield 67, 3) := by decide +kernel
theorem d_M_sort_212 : decode b_M_sort 212 = .ok (.iconst 1, 1) := by decide +kernel
theorem d_M_sort_213 : decode b_M_sort 213 = .ok (.istore_n 1, 1) := by decide +kernel
theorem d_M_sort_214 : decode b_M_sort 214 = .ok (.iload_n 1, 1) := by decide +kernel
theorem d_M_sort_215 : decode b_M_sort 215 = .ok (.aload_n 0, 1) := by decide +kernel
theorem d_M_sort_216 : decode b_M_sort 216 = .ok (.getfield 42, 3) := by decide +kernel
theorem d_M_sort_219 : decode b_M_sort 219 = .ok (.if_icmp .gt 101, 3) := by decide +kernel
theorem d_M_sort_222 : decode b_M_sort 222 = .ok (.aload_n 0, 1) := by decide +kernel
theorem d_M_sort_223 : decode b_M_sort 223 = .ok (.getfield 35, 3) := by decide +kernel
theorem d_M_sort_226 : decode b_M_sort 226 = .ok (.iload_n 1, 1) := by decide +kernel
theorem d_M_sort_227 : decode b_M_sort 227 = .ok (.aload_n 0, 1) := by decide +kernel
theorem d_M_sort_228 : decode b_M_sort 228 = .ok (.getfield 16, 3) := by decide +kernel
theorem d_M_sort_231 : decode b_M_sort 231 = .ok (.iload_n 1, 1) := by decide +kernel
theorem d_M_sort_232 : decode b_M_sort 232 = .ok (.baload, 1) := by decide +kernel
theorem d_M_sort_233 : decode b_M_sort 233 = .ok (.bastore, 1) := by decide +kernel
theorem d_M_sort_234 : decode b_M_sort 234 = .ok (.iconst 0, 1) := by decide +kernel
theorem d_M_sort_235 : decode b_M_sort 235 = .ok (.istore_n 2, 1) := by decide +kernel
theorem d_M_sort_236 : decode b_M_sort 236 = .ok (.iload_n 2, 1) := by decide +kernel
theorem d_M_sort_237 : decode b_M_sort 237 = .ok (.bipush 6, 2) := by decide +kernel
theorem d_M_sort_239 : decode b_M_sort 239 = .ok (.if_icmp .ge 52, 3) := by decide +kernel
theorem d_M_sort_242 : decode b_M_sort 242 = .ok (.aload_n 0, 1) := by decide +kernel
theorem d_M_sort_243 : decode b_M_sort 243 = .ok (.getfield 35, 3) := by decide +kernel
theorem d_M_sort_246 : decode b_M_sort 246 = .ok (.iload_n 1, 1) := by decide +kernel
theorem d_M_sort_247 : decode b_M_sort 247 = .ok (.aload_n 0, 1) := by decide +kernel
theorem d_M_sort_248 : decode b_M_sort 248 = .ok (.getfield 35, 3) := by decide +kernel
theorem d_M_sort_251 : decode b_M_sort 251 = .ok (.iload_n 1, 1) := by decide +kernel
theorem d_M_sort_252 : decode b_M_sort 252 = .ok (.baload, 1) := by decide +kernel
theorem d_M_sort_253 : decode b_M_sort 253 = .ok (.ifCond .eq 30, 3) := by decide +kernel
theorem d_M_sort_256 : decode b_M_sort 256 = .ok (.aload_n 0, 1) := by decide +kernel
theorem d_M_sort_257 : decode b_M_sort 257 = .ok (.getfield 29, 3) := by decide +kernel
theorem d_M_sort_260 : decode b_M_sort 260 = .ok (.iload_n 2, 1) := by decide +kernel
theorem d_M_sort_261 : decode b_M_sort 261 = .ok (.baload, 1) := by decide +kernel
theorem d_M_sort_262 : decode b_M_sort 262 = .ok (.ifCond .eq 17, 3) := by decide +kernel
theorem d_M_sort_265 : decode b_M_sort 265 = .ok (.aload_n 0, 1) := by decide +kernel
theorem d_M_sort_266 : decode b_M_sort 266 = .ok (.getfield 32, 3) := by decide +kernel
theorem d_M_sort_269 : decode b_M_sort 269 = .ok (.bipush 6, 2) := by decide +kernel
theorem d_M_sort_271 : decode b_M_sort 271 = .ok (.iload_n 1, 1) := by decide +kernel
theorem d_M_sort_272 : decode b_M_sort 272 = .ok (.imul, 1) := by decide +kernel
theorem d_M_sort_273 : decode b_M_sort 273 = .ok (.iload_n 2, 1) := by decide +kernel
theorem d_M_sort_274 : decode b_M_sort 274 = .ok (.iadd, 1) := by decide +kernel
theorem d_M_sort_275 : decode b_M_sort 275 = .ok (.baload, 1) := by decide +kernel
theorem d_M_sort_276 : decode b_M_sort 276 = .ok (.ifCond .eq 7, 3) := by decide +kernel
theorem d_M_sort_279 : decode b_M_sort 279 = .ok (.iconst 1, 1) := by decide +kernel
theorem d_M_sort_280 : decode b_M_sort 280 = .ok (.goto 4, 3) := by decide +kernel
theorem d_M_sort_283 : decode b_M_sort 283 = .ok (.iconst 0, 1) := by decide +kernel
theorem d_M_sort_284 : decode b_M_sort 284 = .ok (.bastore, 1) := by decide +kernel
theorem d_M_sort_285 : decode b_M_sort 285 = .ok (.iinc 2 1, 3) := by decide +kernel
theorem d_M_sort_288 : decode b_M_sort 288 = .ok (.goto (-52), 3) := by decide +kernel
theorem d_M_sort_291 : decode b_M_sort 291 = .ok (.aload_n 0, 1) := by decide +kernel
theorem d_M_sort_292 : decode b_M_sort 292 = .ok (.dup, 1) := by decide +kernel
theorem d_M_sort_293 : decode b_M_sort 293 = .ok (.getfield 67, 3) := by decide +kernel
theorem d_M_sort_296 : decode b_M_sort 296 = .ok (.aload_n 0, 1) := by decide +kernel
theorem d_M_sort_297 : decode b_M_sort 297 = .ok (.getfield 35, 3) := by decide +kernel
theorem d_M_sort_300 : decode b_M_sort 300 = .ok (.iload_n 1, 1) := by decide +kernel
theorem d_M_sort_301 : decode b_M_sort 301 = .ok (.baload, 1) := by decide +kernel
theorem d_M_sort_302 : decode b_M_sort 302 = .ok (.ifCond .eq 7, 3) := by decide +kernel
theorem d_M_sort_305 : decode b_M_sort 305 = .ok (.iconst 1, 1) := by decide +kernel
theorem d_M_sort_306 : decode b_M_sort 306 = .ok (.goto 4, 3) := by decide +kernel
theorem d_M_sort_309 : decode b_M_sort 309 = .ok (.iconst 0, 1) := by decide +kernel
theorem d_M_sort_310 : decode b_M_sort 310 = .ok (.iadd, 1) := by decide +kernel
theorem d_M_sort_311 : decode b_M_sort 311 = .ok (.putfield 67, 3) := by decide +kernel
theorem d_M_sort_314 : decode b_M_sort 314 = .ok (.iinc 1 1, 3) := by decide +kernel
theorem d_M_sort_317 : decode b_M_sort 317 = .ok (.goto (-103), 3) := by decide +kernel
theorem d_M_sort_320 : decode b_M_sort 320 = .ok (.return_, 1) := by decide +kernel
theorem d_M_count_0 : decode b_M_count 0 = .ok (.aload_n 0, 1) := by decide +kernel
theorem d_M_count_1 : decode b_M_count 1 = .ok (.iconst 0, 1) := by decide +kernel
theorem d_M_count_2 : decode b_M_count 2 = .ok (.putfield 38, 3) := by decide +kernel
theorem d_M_count_5 : decode b_M_count 5 = .ok (.iload_n 1, 1) := by decide +kernel
theorem d_M_count_6 : decode b_M_count 6 = .ok (.iload_n 2, 1) := by decide +kernel
theorem d_M_count_7 : decode b_M_count 7 = .ok (.invokestatic 55, 3) := by decide +kernel
theorem d_M_count_10 : decode b_M_count 10 = .ok (.ifCond .ne 5, 3) := by decide +kernel
theorem d_M_count_13 : decode b_M_count 13 = .ok (.iconst (-1), 1) := by decide +kernel
theorem d_M_count_14 : decode b_M_count 14 = .ok (.ireturn, 1) := by decide +kernel
theorem d_M_count_15 : decode b_M_count 15 = .ok (.aload_n 0, 1) := by decide +kernel
theorem d_M_count_16 : decode b_M_count 16 = .ok (.iload_n 1, 1) := by decide +kernel
theorem d_M_count_17 : decode b_M_count 17 = .ok (.invokevirtual 73, 3) := by decide +kernel
theorem d_M_count_20 : decode b_M_count 20 = .ok (.aload_n 0, 1) := by decide +kernel
theorem d_M_count_21 : decode b_M_count 21 = .ok (.getfield 23, 3) := by decide +kernel
theorem d_M_count_24 : decode b_M_count 24 = .ok (.iload_n 2, 1) := by decide +kernel
theorem d_M_count_25 : decode b_M_count 25 = .ok (.iaload, 1) := by decide +kernel
theorem d_M_count_26 : decode b_M_count 26 = .ok (.ireturn, 1) := by decide +kernel
theorem d_M_reckon_0 : decode b_M_reckon 0 = .ok (.aload_n 0, 1) := by decide +kernel
theorem d_M_reckon_1 : decode b_M_reckon 1 = .ok (.invokevirtual 70, 3) := by decide +kernel
theorem d_M_reckon_4 : decode b_M_reckon 4 = .ok (.iconst 0, 1) := by decide +kernel
theorem d_M_reckon_5 : decode b_M_reckon 5 = .ok (.istore_n 2, 1) := by decide +kernel
theorem d_M_reckon_6 : decode b_M_reckon 6 = .ok (.iload_n 2, 1) := by decide +kernel
theorem d_M_reckon_7 : decode b_M_reckon 7 = .ok (.bipush 100, 2) := by decide +kernel
theorem d_M_reckon_9 : decode b_M_reckon 9 = .ok (.if_icmp .ge 23, 3) := by decide +kernel
theorem d_M_reckon_12 : decode b_M_reckon 12 = .ok (.aload_n 0, 1) := by decide +kernel
theorem d_M_reckon_13 : decode b_M_reckon 13 = .ok (.getfield 23, 3) := by decide +kernel
theorem d_M_reckon_16 : decode b_M_reckon 16 = .ok (.iload_n 2, 1) := by decide +kernel
theorem d_M_reckon_17 : decode b_M_reckon 17 = .ok (.iconst 0, 1) := by decide +kernel
theorem d_M_reckon_18 : decode b_M_reckon 18 = .ok (.iastore, 1) := by decide +kernel
theorem d_M_reckon_19 : decode b_M_reckon 19 = .ok (.aload_n 0, 1) := by decide +kernel
theorem d_M_reckon_20 : decode b_M_reckon 20 = .ok (.getfield 26, 3) := by decide +kernel
theorem d_M_reckon_23 : decode b_M_reckon 23 = .ok (.iload_n 2, 1) := by decide +kernel
theorem d_M_reckon_24 : decode b_M_reckon 24 = .ok (.iconst 0, 1) := by decide +kernel
theorem d_M_reckon_25 : decode b_M_reckon 25 = .ok (.iastore, 1) := by decide +kernel
theorem d_M_reckon_26 : decode b_M_reckon 26 = .ok (.iinc 2 1, 3) := by decide +kernel
theorem d_M_reckon_29 : decode b_M_reckon 29 = .ok (.goto (-23), 3) := by decide +kernel
theorem d_M_reckon_32 : decode b_M_reckon 32 = .ok (.iconst 1, 1) := by decide +kernel
theorem d_M_reckon_33 : decode b_M_reckon 33 = .ok (.istore_n 2, 1) := by decide +kernel
theorem d_M_reckon_34 : decode b_M_reckon 34 = .ok (.iload_n 2, 1) := by decide +kernel
theorem d_M_reckon_35 : decode b_M_reckon 35 = .ok (.aload_n 0, 1) := by decide +kernel
theorem d_M_reckon_36 : decode b_M_reckon 36 = .ok (.getfield 42, 3) := by decide +kernel
theorem d_M_reckon_39 : decode b_M_reckon 39 = .ok (.if_icmp .gt 129, 3) := by decide +kernel
theorem d_M_reckon_42 : decode b_M_reckon 42 = .ok (.iconst 0, 1) := by decide +kernel
theorem d_M_reckon_43 : decode b_M_reckon 43 = .ok (.istore_n 3, 1) := by decide +kernel
theorem d_M_reckon_44 : decode b_M_reckon 44 = .ok (.iload_n 3, 1) := by decide +kernel
theorem d_M_reckon_45 : decode b_M_reckon 45 = .ok (.aload_n 0, 1) := by decide +kernel
theorem d_M_reckon_46 : decode b_M_reckon 46 = .ok (.getfield 49, 3) := by decide +kernel
theorem d_M_reckon_49 : decode b_M_reckon 49 = .ok (.if_icmp .ge 113, 3) := by decide +kernel
theorem d_M_reckon_52 : decode b_M_reckon 52 = .ok (.aload_n 0, 1) := by decide +kernel
theorem d_M_reckon_53 : decode b_M_reckon 53 = .ok (.getfield 35, 3) := by decide +kernel
theorem d_M_reckon_56 : decode b_M_reckon 56 = .ok (.iload_n 2, 1) := by decide +kernel
theorem d_M_reckon_57 : decode b_M_reckon 57 = .ok (.baload, 1) := by decide +kernel
theorem d_M_reckon_58 : decode b_M_reckon 58 = .ok (.ifCond .eq 104, 3) := by decide +kernel
theorem d_M_reckon_61 : decode b_M_reckon 61 = .ok (.aload_n 0, 1) := by decide +kernel
theorem d_M_reckon_62 : decode b_M_reckon 62 = .ok (.getfield 7, 3) := by decide +kernel
theorem d_M_reckon_65 : decode b_M_reckon 65 = .ok (.iconst 3, 1) := by decide +kernel
theorem d_M_reckon_66 : decode b_M_reckon 66 = .ok (.iload_n 3, 1) := by decide +kernel
theorem d_M_reckon_67 : decode b_M_reckon 67 = .ok (.imul, 1) := by decide +kernel
theorem d_M_reckon_68 : decode b_M_reckon 68 = .ok (.iaload, 1) := by decide +kernel
theorem d_M_reckon_69 : decode b_M_reckon 69 = .ok (.iload_n 2, 1) := by decide +kernel
theorem d_M_reckon_70 : decode b_M_reckon 70 = .ok (.if_icmp .ne 30, 3) := by decide +kernel
theorem d_M_reckon_73 : decode b_M_reckon 73 = .ok (.aload_n 0, 1) := by decide +kernel
theorem d_M_reckon_74 : decode b_M_reckon 74 = .ok (.getfield 7, 3) := by decide +kernel
theorem d_M_reckon_77 : decode b_M_reckon 77 = .ok (.iconst 3, 1) := by decide +kernel
theorem d_M_reckon_78 : decode b_M_reckon 78 = .ok (.iload_n 3, 1) := by decide +kernel
theorem d_M_reckon_79 : decode b_M_reckon 79 = .ok (.imul, 1) := by decide +kernel
theorem d_M_reckon_80 : decode b_M_reckon 80 = .ok (.iconst 1, 1) := by decide +kernel
theorem d_M_reckon_81 : decode b_M_reckon 81 = .ok (.iadd, 1) := by decide +kernel
theorem d_M_reckon_82 : decode b_M_reckon 82 = .ok (.iaload, 1) := by decide +kernel
theorem d_M_reckon_83 : decode b_M_reckon 83 = .ok (.iload_n 1, 1) := by decide +kernel
theorem d_M_reckon_84 : decode b_M_reckon 84 = .ok (.if_icmp .ne 16, 3) := by decide +kernel
theorem d_M_reckon_87 : decode b_M_reckon 87 = .ok (.aload_n 0, 1) := by decide +kernel
theorem d_M_reckon_88 : decode b_M_reckon 88 = .ok (.getfield 7, 3) := by decide +kernel
theorem d_M_reckon_91 : decode b_M_reckon 91 = .ok (.iconst 3, 1) := by decide +kernel
theorem d_M_reckon_92 : decode b_M_reckon 92 = .ok (.iload_n 3, 1) := by decide +kernel
theorem d_M_reckon_93 : decode b_M_reckon 93 = .ok (.imul, 1) := by decide +kernel
theorem d_M_reckon_94 : decode b_M_reckon 94 = .ok (.iconst 2, 1) := by decide +kernel
theorem d_M_reckon_95 : decode b_M_reckon 95 = .ok (.iadd, 1) := by decide +kernel
theorem d_M_reckon_96 : decode b_M_reckon 96 = .ok (.iaload, 1) := by decide +kernel
theorem d_M_reckon_97 : decode b_M_reckon 97 = .ok (.goto 4, 3) := by decide +kernel
theorem d_M_reckon_100 : decode b_M_reckon 100 = .ok (.iconst (-1), 1) := by decide +kernel
theorem d_M_reckon_101 : decode b_M_reckon 101 = .ok (.istore 4, 2) := by decide +kernel
theorem d_M_reckon_103 : decode b_M_reckon 103 = .ok (.iload 4, 2) := by decide +kernel
theorem d_M_reckon_105 : decode b_M_reckon 105 = .ok (.iconst (-1), 1) := by decide +kernel
theorem d_M_reckon_106 : decode b_M_reckon 106 = .ok (.if_icmp .eq 50, 3) := by decide +kernel
theorem d_M_reckon_109 : decode b_M_reckon 109 = .ok (.aload_n 0, 1) := by decide +kernel
theorem d_M_reckon_110 : decode b_M_reckon 110 = .ok (.getfield 26, 3) := by decide +kernel
theorem d_M_reckon_113 : decode b_M_reckon 113 = .ok (.iload 4, 2) := by decide +kernel
theorem d_M_reckon_115 : decode b_M_reckon 115 = .ok (.iaload, 1) := by decide +kernel
theorem d_M_reckon_116 : decode b_M_reckon 116 = .ok (.iload_n 2, 1) := by decide +kernel
theorem d_M_reckon_117 : decode b_M_reckon 117 = .ok (.if_icmp .eq 39, 3) := by decide +kernel
theorem d_M_reckon_120 : decode b_M_reckon 120 = .ok (.aload_n 0, 1) := by decide +kernel
theorem d_M_reckon_121 : decode b_M_reckon 121 = .ok (.getfield 26, 3) := by decide +kernel
theorem d_M_reckon_124 : decode b_M_reckon 124 = .ok (.iload 4, 2) := by decide +kernel
theorem d_M_reckon_126 : decode b_M_reckon 126 = .ok (.iload_n 2, 1) := by decide +kernel
theorem d_M_reckon_127 : decode b_M_reckon 127 = .ok (.iastore, 1) := by decide +kernel
theorem d_M_reckon_128 : decode b_M_reckon 128 = .ok (.aload_n 0, 1) := by decide +kernel
theorem d_M_reckon_129 : decode b_M_reckon 129 = .ok (.getfield 23, 3) := by decide +kernel
theorem d_M_reckon_132 : decode b_M_reckon 132 = .ok (.iload 4, 2) := by decide +kernel
theorem d_M_reckon_134 : decode b_M_reckon 134 = .ok (.dup2, 1) := by decide +kernel
theorem d_M_reckon_135 : decode b_M_reckon 135 = .ok (.iaload, 1) := by decide +kernel
theorem d_M_reckon_136 : decode b_M_reckon 136 = .ok (.iconst 1, 1) := by decide +kernel
theorem d_M_reckon_137 : decode b_M_reckon 137 = .ok (.iadd, 1) := by decide +kernel
theorem d_M_reckon_138 : decode b_M_reckon 138 = .ok (.iastore, 1) := by decide +kernel
theorem d_M_reckon_139 : decode b_M_reckon 139 = .ok (.aload_n 0, 1) := by decide +kernel
theorem d_M_reckon_140 : decode b_M_reckon 140 = .ok (.getfield 13, 3) := by decide +kernel
theorem d_M_reckon_143 : decode b_M_reckon 143 = .ok (.bipush 100, 2) := by decide +kernel
theorem d_M_reckon_145 : decode b_M_reckon 145 = .ok (.iload_n 1, 1) := by decide +kernel
theorem d_M_reckon_146 : decode b_M_reckon 146 = .ok (.imul, 1) := by decide +kernel
theorem d_M_reckon_147 : decode b_M_reckon 147 = .ok (.iload 4, 2) := by decide +kernel
theorem d_M_reckon_149 : decode b_M_reckon 149 = .ok (.iadd, 1) := by decide +kernel
theorem d_M_reckon_150 : decode b_M_reckon 150 = .ok (.iaload, 1) := by decide +kernel
theorem d_M_reckon_151 : decode b_M_reckon 151 = .ok (.istore 4, 2) := by decide +kernel
theorem d_M_reckon_153 : decode b_M_reckon 153 = .ok (.goto (-50), 3) := by decide +kernel
theorem d_M_reckon_156 : decode b_M_reckon 156 = .ok (.iinc 3 1, 3) := by decide +kernel
theorem d_M_reckon_159 : decode b_M_reckon 159 = .ok (.goto (-115), 3) := by decide +kernel
theorem d_M_reckon_162 : decode b_M_reckon 162 = .ok (.iinc 2 1, 3) := by decide +kernel
theorem d_M_reckon_165 : decode b_M_reckon 165 = .ok (.goto (-131), 3) := by decide +kernel
theorem d_M_reckon_168 : decode b_M_reckon 168 = .ok (.return_, 1) := by decide +kernel
theorem d_M_top_0 : decode b_M_top 0 = .ok (.aload_n 0, 1) := by decide +kernel
theorem d_M_top_1 : decode b_M_top 1 = .ok (.iconst 0, 1) := by decide +kernel
theorem d_M_top_2 : decode b_M_top 2 = .ok (.putfield 38, 3) := by decide +kernel
theorem d_M_top_5 : decode b_M_top 5 = .ok (.iload_n 1, 1) := by decide +kernel
theorem d_M_top_6 : decode b_M_top 6 = .ok (.invokestatic 45, 3) := by decide +kernel
theorem d_M_top_9 : decode b_M_top 9 = .ok (.ifCond .eq 7, 3) := by decide +kernel
theorem d_M_top_12 : decode b_M_top 12 = .ok (.iload_n 2, 1) := by decide +kernel
theorem d_M_top_13 : decode b_M_top 13 = .ok (.ifCond .ge 5, 3) := by decide +kernel
theorem d_M_top_16 : decode b_M_top 16 = .ok (.iconst (-1), 1) := by decide +kernel
theorem d_M_top_17 : decode b_M_top 17 = .ok (.ireturn, 1) := by decide +kernel
theorem d_M_top_18 : decode b_M_top 18 = .ok (.aload_n 0, 1) := by decide +kernel
theorem d_M_top_19 : decode b_M_top 19 = .ok (.iload_n 1, 1) := by decide +kernel
theorem d_M_top_20 : decode b_M_top 20 = .ok (.invokevirtual 73, 3) := by decide +kernel
theorem d_M_top_23 : decode b_M_top 23 = .ok (.aload_n 0, 1) := by decide +kernel
theorem d_M_top_24 : decode b_M_top 24 = .ok (.iload_n 1, 1) := by decide +kernel
theorem d_M_top_25 : decode b_M_top 25 = .ok (.bipush (-2), 2) := by decide +kernel
theorem d_M_top_27 : decode b_M_top 27 = .ok (.iload_n 2, 1) := by decide +kernel
theorem d_M_top_28 : decode b_M_top 28 = .ok (.invokevirtual 77, 3) := by decide +kernel
theorem d_M_top_31 : decode b_M_top 31 = .ok (.ireturn, 1) := by decide +kernel
theorem d_M_ranked_0 : decode b_M_ranked 0 = .ok (.iconst 0, 1) := by decide +kernel
theorem d_M_ranked_1 : decode b_M_ranked 1 = .ok (.istore 4, 2) := by decide +kernel
theorem d_M_ranked_3 : decode b_M_ranked 3 = .ok (.iload 4, 2) := by decide +kernel
theorem d_M_ranked_5 : decode b_M_ranked 5 = .ok (.bipush 100, 2) := by decide +kernel
theorem d_M_ranked_7 : decode b_M_ranked 7 = .ok (.if_icmp .ge 142, 3) := by decide +kernel
theorem d_M_ranked_10 : decode b_M_ranked 10 = .ok (.aload_n 0, 1) := by decide +kernel
theorem d_M_ranked_11 : decode b_M_ranked 11 = .ok (.getfield 23, 3) := by decide +kernel
theorem d_M_ranked_14 : decode b_M_ranked 14 = .ok (.iload 4, 2) := by decide +kernel
theorem d_M_ranked_16 : decode b_M_ranked 16 = .ok (.iaload, 1) := by decide +kernel
theorem d_M_ranked_17 : decode b_M_ranked 17 = .ok (.ifCond .le 126, 3) := by decide +kernel
theorem d_M_ranked_20 : decode b_M_ranked 20 = .ok (.iload_n 2, 1) := by decide +kernel
theorem d_M_ranked_21 : decode b_M_ranked 21 = .ok (.bipush (-2), 2) := by decide +kernel
theorem d_M_ranked_23 : decode b_M_ranked 23 = .ok (.if_icmp .eq 19, 3) := by decide +kernel
theorem d_M_ranked_26 : decode b_M_ranked 26 = .ok (.aload_n 0, 1) := by decide +kernel
theorem d_M_ranked_27 : decode b_M_ranked 27 = .ok (.getfield 13, 3) := by decide +kernel
theorem d_M_ranked_30 : decode b_M_ranked 30 = .ok (.bipush 100, 2) := by decide +kernel
theorem d_M_ranked_32 : decode b_M_ranked 32 = .ok (.iload_n 1, 1) := by decide +kernel
theorem d_M_ranked_33 : decode b_M_ranked 33 = .ok (.imul, 1) := by decide +kernel
theorem d_M_ranked_34 : decode b_M_ranked 34 = .ok (.iload 4, 2) := by decide +kernel
theorem d_M_ranked_36 : decode b_M_ranked 36 = .ok (.iadd, 1) := by decide +kernel
theorem d_M_ranked_37 : decode b_M_ranked 37 = .ok (.iaload, 1) := by decide +kernel
theorem d_M_ranked_38 : decode b_M_ranked 38 = .ok (.iload_n 2, 1) := by decide +kernel
theorem d_M_ranked_39 : decode b_M_ranked 39 = .ok (.if_icmp .ne 104, 3) := by decide +kernel
theorem d_M_ranked_42 : decode b_M_ranked 42 = .ok (.iconst 0, 1) := by decide +kernel
theorem d_M_ranked_43 : decode b_M_ranked 43 = .ok (.istore 5, 2) := by decide +kernel
theorem d_M_ranked_45 : decode b_M_ranked 45 = .ok (.iconst 0, 1) := by decide +kernel
theorem d_M_ranked_46 : decode b_M_ranked 46 = .ok (.istore 6, 2) := by decide +kernel
theorem d_M_ranked_48 : decode b_M_ranked 48 = .ok (.iload 6, 2) := by decide +kernel
theorem d_M_ranked_50 : decode b_M_ranked 50 = .ok (.bipush 100, 2) := by decide +kernel
theorem d_M_ranked_52 : decode b_M_ranked 52 = .ok (.if_icmp .ge 82, 3) := by decide +kernel
theorem d_M_ranked_55 : decode b_M_ranked 55 = .ok (.iload 5, 2) := by decide +kernel
theorem d_M_ranked_57 : decode b_M_ranked 57 = .ok (.iload_n 2, 1) := by decide +kernel
theorem d_M_ranked_58 : decode b_M_ranked 58 = .ok (.bipush (-2), 2) := by decide +kernel
theorem d_M_ranked_60 : decode b_M_ranked 60 = .ok (.if_icmp .eq 19, 3) := by decide +kernel
theorem d_M_ranked_63 : decode b_M_ranked 63 = .ok (.aload_n 0, 1) := by decide +kernel
theorem d_M_ranked_64 : decode b_M_ranked 64 = .ok (.getfield 13, 3) := by decide +kernel
theorem d_M_ranked_67 : decode b_M_ranked 67 = .ok (.bipush 100, 2) := by decide +kernel
theorem d_M_ranked_69 : decode b_M_ranked 69 = .ok (.iload_n 1, 1) := by decide +kernel
theorem d_M_ranked_70 : decode b_M_ranked 70 = .ok (.imul, 1) := by decide +kernel
theorem d_M_ranked_71 : decode b_M_ranked 71 = .ok (.iload 6, 2) := by decide +kernel
theorem d_M_ranked_73 : decode b_M_ranked 73 = .ok (.iadd, 1) := by decide +kernel
theorem d_M_ranked_74 : decode b_M_ranked 74 = .ok (.iaload, 1) := by decide +kernel
theorem d_M_ranked_75 : decode b_M_ranked 75 = .ok (.iload_n 2, 1) := by decide +kernel
theorem d_M_ranked_76 : decode b_M_ranked 76 = .ok (.if_icmp .ne 48, 3) := by decide +kernel
theorem d_M_ranked_79 : decode b_M_ranked 79 = .ok (.aload_n 0, 1) := by decide +kernel
theorem d_M_ranked_80 : decode b_M_ranked 80 = .ok (.getfield 23, 3) := by decide +kernel
theorem d_M_ranked_83 : decode b_M_ranked 83 = .ok (.iload 6, 2) := by decide +kernel
theorem d_M_ranked_85 : decode b_M_ranked 85 = .ok (.iaload, 1) := by decide +kernel
theorem d_M_ranked_86 : decode b_M_ranked 86 = .ok (.aload_n 0, 1) := by decide +kernel
theorem d_M_ranked_87 : decode b_M_ranked 87 = .ok (.getfield 23, 3) := by decide +kernel
theorem d_M_ranked_90 : decode b_M_ranked 90 = .ok (.iload 4, 2) := by decide +kernel
theorem d_M_ranked_92 : decode b_M_ranked 92 = .ok (.iaload, 1) := by decide +kernel
theorem d_M_ranked_93 : decode b_M_ranked 93 = .ok (.if_icmp .gt 27, 3) := by decide +kernel
theorem d_M_ranked_96 : decode b_M_ranked 96 = .ok (.aload_n 0, 1) := by decide +kernel
theorem d_M_ranked_97 : decode b_M_ranked 97 = .ok (.getfield 23, 3) := by decide +kernel
theorem d_M_ranked_100 : decode b_M_ranked 100 = .ok (.iload 6, 2) := by decide +kernel
theorem d_M_ranked_102 : decode b_M_ranked 102 = .ok (.iaload, 1) := by decide +kernel
theorem d_M_ranked_103 : decode b_M_ranked 103 = .ok (.aload_n 0, 1) := by decide +kernel
theorem d_M_ranked_104 : decode b_M_ranked 104 = .ok (.getfield 23, 3) := by decide +kernel
theorem d_M_ranked_107 : decode b_M_ranked 107 = .ok (.iload 4, 2) := by decide +kernel
theorem d_M_ranked_109 : decode b_M_ranked 109 = .ok (.iaload, 1) := by decide +kernel
theorem d_M_ranked_110 : decode b_M_ranked 110 = .ok (.if_icmp .ne 14, 3) := by decide +kernel
theorem d_M_ranked_113 : decode b_M_ranked 113 = .ok (.iload 6, 2) := by decide +kernel
theorem d_M_ranked_115 : decode b_M_ranked 115 = .ok (.iload 4, 2) := by decide +kernel
theorem d_M_ranked_117 : decode b_M_ranked 117 = .ok (.if_icmp .ge 7, 3) := by decide +kernel
theorem d_M_ranked_120 : decode b_M_ranked 120 = .ok (.iconst 1, 1) := by decide +kernel
theorem d_M_ranked_121 : decode b_M_ranked 121 = .ok (.goto 4, 3) := by decide +kernel
theorem d_M_ranked_124 : decode b_M_ranked 124 = .ok (.iconst 0, 1) := by decide +kernel
theorem d_M_ranked_125 : decode b_M_ranked 125 = .ok (.iadd, 1) := by decide +kernel
theorem d_M_ranked_126 : decode b_M_ranked 126 = .ok (.istore 5, 2) := by decide +kernel
theorem d_M_ranked_128 : decode b_M_ranked 128 = .ok (.iinc 6 1, 3) := by decide +kernel
theorem d_M_ranked_131 : decode b_M_ranked 131 = .ok (.goto (-83), 3) := by decide +kernel
theorem d_M_ranked_134 : decode b_M_ranked 134 = .ok (.iload 5, 2) := by decide +kernel
theorem d_M_ranked_136 : decode b_M_ranked 136 = .ok (.iload_n 3, 1) := by decide +kernel
theorem d_M_ranked_137 : decode b_M_ranked 137 = .ok (.if_icmp .ne 6, 3) := by decide +kernel
theorem d_M_ranked_140 : decode b_M_ranked 140 = .ok (.iload 4, 2) := by decide +kernel
theorem d_M_ranked_142 : decode b_M_ranked 142 = .ok (.ireturn, 1) := by decide +kernel
theorem d_M_ranked_143 : decode b_M_ranked 143 = .ok (.iinc 4 1, 3) := by decide +kernel
theorem d_M_ranked_146 : decode b_M_ranked 146 = .ok (.goto (-143), 3) := by decide +kernel
theorem d_M_ranked_149 : decode b_M_ranked 149 = .ok (.iconst (-1), 1) := by decide +kernel
theorem d_M_ranked_150 : decode b_M_ranked 150 = .ok (.ireturn, 1) := by decide +kernel
theorem d_M_below_0 : decode b_M_below 0 = .ok (.aload_n 0, 1) := by decide +kernel
theorem d_M_below_1 : decode b_M_below 1 = .ok (.iconst 0, 1) := by decide +kernel
theorem d_M_below_2 : decode b_M_below 2 = .ok (.putfield 38, 3) := by decide +kernel
theorem d_M_below_5 : decode b_M_below 5 = .ok (.iload_n 1, 1) := by decide +kernel
theorem d_M_below_6 : decode b_M_below 6 = .ok (.invokestatic 45, 3) := by decide +kernel
theorem d_M_below_9 : decode b_M_below 9 = .ok (.ifCond .eq 20, 3) := by decide +kernel
theorem d_M_below_12 : decode b_M_below 12 = .ok (.iload 4, 2) := by decide +kernel
theorem d_M_below_14 : decode b_M_below 14 = .ok (.ifCond .lt 15, 3) := by decide +kernel
theorem d_M_below_17 : decode b_M_below 17 = .ok (.iload_n 2, 1) := by decide +kernel
theorem d_M_below_18 : decode b_M_below 18 = .ok (.ifCond .ne 13, 3) := by decide +kernel
theorem d_M_below_21 : decode b_M_below 21 = .ok (.iload_n 1, 1) := by decide +kernel
theorem d_M_below_22 : decode b_M_below 22 = .ok (.iload_n 3, 1) := by decide +kernel
theorem d_M_below_23 : decode b_M_below 23 = .ok (.invokestatic 55, 3) := by decide +kernel
theorem d_M_below_26 : decode b_M_below 26 = .ok (.ifCond .ne 5, 3) := by decide +kernel
theorem d_M_below_29 : decode b_M_below 29 = .ok (.iconst (-1), 1) := by decide +kernel
theorem d_M_below_30 : decode b_M_below 30 = .ok (.ireturn, 1) := by decide +kernel
theorem d_M_below_31 : decode b_M_below 31 = .ok (.aload_n 0, 1) := by decide +kernel
theorem d_M_below_32 : decode b_M_below 32 = .ok (.iload_n 1, 1) := by decide +kernel
theorem d_M_below_33 : decode b_M_below 33 = .ok (.invokevirtual 73, 3) := by decide +kernel
theorem d_M_below_36 : decode b_M_below 36 = .ok (.aload_n 0, 1) := by decide +kernel
theorem d_M_below_37 : decode b_M_below 37 = .ok (.iload_n 1, 1) := by decide +kernel
theorem d_M_below_38 : decode b_M_below 38 = .ok (.iload_n 2, 1) := by decide +kernel
theorem d_M_below_39 : decode b_M_below 39 = .ok (.ifCond .eq 7, 3) := by decide +kernel
theorem d_M_below_42 : decode b_M_below 42 = .ok (.iconst (-1), 1) := by decide +kernel
theorem d_M_below_43 : decode b_M_below 43 = .ok (.goto 4, 3) := by decide +kernel
theorem d_M_below_46 : decode b_M_below 46 = .ok (.iload_n 3, 1) := by decide +kernel
theorem d_M_below_47 : decode b_M_below 47 = .ok (.iload 4, 2) := by decide +kernel
theorem d_M_below_49 : decode b_M_below 49 = .ok (.invokevirtual 77, 3) := by decide +kernel
theorem d_M_below_52 : decode b_M_below 52 = .ok (.ireturn, 1) := by decide +kernel
theorem d_M_band_0 : decode b_M_band 0 = .ok (.aload_n 0, 1) := by decide +kernel
theorem d_M_band_1 : decode b_M_band 1 = .ok (.iconst 0, 1) := by decide +kernel
theorem d_M_band_2 : decode b_M_band 2 = .ok (.putfield 38, 3) := by decide +kernel
theorem d_M_band_5 : decode b_M_band 5 = .ok (.iload_n 1, 1) := by decide +kernel
theorem d_M_band_6 : decode b_M_band 6 = .ok (.invokestatic 45, 3) := by decide +kernel
theorem d_M_band_9 : decode b_M_band 9 = .ok (.ifCond .eq 8, 3) := by decide +kernel
theorem d_M_band_12 : decode b_M_band 12 = .ok (.iload_n 3, 1) := by decide +kernel
theorem d_M_band_13 : decode b_M_band 13 = .ok (.iload_n 2, 1) := by decide +kernel
theorem d_M_band_14 : decode b_M_band 14 = .ok (.if_icmp .ge 5, 3) := by decide +kernel
theorem d_M_band_17 : decode b_M_band 17 = .ok (.iconst (-1), 1) := by decide +kernel
theorem d_M_band_18 : decode b_M_band 18 = .ok (.ireturn, 1) := by decide +kernel
theorem d_M_band_19 : decode b_M_band 19 = .ok (.iconst 0, 1) := by decide +kernel
theorem d_M_band_20 : decode b_M_band 20 = .ok (.istore 4, 2) := by decide +kernel
theorem d_M_band_22 : decode b_M_band 22 = .ok (.aload_n 0, 1) := by decide +kernel
theorem d_M_band_23 : decode b_M_band 23 = .ok (.invokevirtual 70, 3) := by decide +kernel
theorem d_M_band_26 : decode b_M_band 26 = .ok (.iconst 1, 1) := by decide +kernel
theorem d_M_band_27 : decode b_M_band 27 = .ok (.istore 5, 2) := by decide +kernel
theorem d_M_band_29 : decode b_M_band 29 = .ok (.iload 5, 2) := by decide +kernel
theorem d_M_band_31 : decode b_M_band 31 = .ok (.aload_n 0, 1) := by decide +kernel
theorem d_M_band_32 : decode b_M_band 32 = .ok (.getfield 42, 3) := by decide +kernel
theorem d_M_band_35 : decode b_M_band 35 = .ok (.if_icmp .gt 126, 3) := by decide +kernel
theorem d_M_band_38 : decode b_M_band 38 = .ok (.iconst 0, 1) := by decide +kernel
theorem d_M_band_39 : decode b_M_band 39 = .ok (.istore 6, 2) := by decide +kernel
theorem d_M_band_41 : decode b_M_band 41 = .ok (.iconst 0, 1) := by decide +kernel
theorem d_M_band_42 : decode b_M_band 42 = .ok (.istore 7, 2) := by decide +kernel
theorem d_M_band_44 : decode b_M_band 44 = .ok (.iload 7, 2) := by decide +kernel
theorem d_M_band_46 : decode b_M_band 46 = .ok (.aload_n 0, 1) := by decide +kernel
theorem d_M_band_47 : decode b_M_band 47 = .ok (.getfield 49, 3) := by decide +kernel
theorem d_M_band_50 : decode b_M_band 50 = .ok (.if_icmp .ge 80, 3) := by decide +kernel
theorem d_M_band_53 : decode b_M_band 53 = .ok (.iload 6, 2) := by decide +kernel
theorem d_M_band_55 : decode b_M_band 55 = .ok (.ifCond .ne 62, 3) := by decide +kernel
theorem d_M_band_58 : decode b_M_band 58 = .ok (.aload_n 0, 1) := by decide +kernel
theorem d_M_band_59 : decode b_M_band 59 = .ok (.getfield 7, 3) := by decide +kernel
theorem d_M_band_62 : decode b_M_band 62 = .ok (.iconst 3, 1) := by decide +kernel
theorem d_M_band_63 : decode b_M_band 63 = .ok (.iload 7, 2) := by decide +kernel
theorem d_M_band_65 : decode b_M_band 65 = .ok (.imul, 1) := by decide +kernel
theorem d_M_band_66 : decode b_M_band 66 = .ok (.iaload, 1) := by decide +kernel
theorem d_M_band_67 : decode b_M_band 67 = .ok (.iload 5, 2) := by decide +kernel
theorem d_M_band_69 : decode b_M_band 69 = .ok (.if_icmp .ne 52, 3) := by decide +kernel
theorem d_M_band_72 : decode b_M_band 72 = .ok (.aload_n 0, 1) := by decide +kernel
theorem d_M_band_73 : decode b_M_band 73 = .ok (.getfield 7, 3) := by decide +kernel
theorem d_M_band_76 : decode b_M_band 76 = .ok (.iconst 3, 1) := by decide +kernel
theorem d_M_band_77 : decode b_M_band 77 = .ok (.iload 7, 2) := by decide +kernel
theorem d_M_band_79 : decode b_M_band 79 = .ok (.imul, 1) := by decide +kernel
theorem d_M_band_80 : decode b_M_band 80 = .ok (.iconst 1, 1) := by decide +kernel
theorem d_M_band_81 : decode b_M_band 81 = .ok (.iadd, 1) := by decide +kernel
theorem d_M_band_82 : decode b_M_band 82 = .ok (.iaload, 1) := by decide +kernel
theorem d_M_band_83 : decode b_M_band 83 = .ok (.iload_n 1, 1) := by decide +kernel
theorem d_M_band_84 : decode b_M_band 84 = .ok (.if_icmp .ne 37, 3) := by decide +kernel
theorem d_M_band_87 : decode b_M_band 87 = .ok (.aload_n 0, 1) := by decide +kernel
theorem d_M_band_88 : decode b_M_band 88 = .ok (.getfield 7, 3) := by decide +kernel
theorem d_M_band_91 : decode b_M_band 91 = .ok (.iconst 3, 1) := by decide +kernel
theorem d_M_band_92 : decode b_M_band 92 = .ok (.iload 7, 2) := by decide +kernel
theorem d_M_band_94 : decode b_M_band 94 = .ok (.imul, 1) := by decide +kernel
theorem d_M_band_95 : decode b_M_band 95 = .ok (.iconst 2, 1) := by decide +kernel
theorem d_M_band_96 : decode b_M_band 96 = .ok (.iadd, 1) := by decide +kernel
theorem d_M_band_97 : decode b_M_band 97 = .ok (.iaload, 1) := by decide +kernel
theorem d_M_band_98 : decode b_M_band 98 = .ok (.iload_n 2, 1) := by decide +kernel
theorem d_M_band_99 : decode b_M_band 99 = .ok (.if_icmp .lt 22, 3) := by decide +kernel
theorem d_M_band_102 : decode b_M_band 102 = .ok (.aload_n 0, 1) := by decide +kernel
theorem d_M_band_103 : decode b_M_band 103 = .ok (.getfield 7, 3) := by decide +kernel
theorem d_M_band_106 : decode b_M_band 106 = .ok (.iconst 3, 1) := by decide +kernel
theorem d_M_band_107 : decode b_M_band 107 = .ok (.iload 7, 2) := by decide +kernel
theorem d_M_band_109 : decode b_M_band 109 = .ok (.imul, 1) := by decide +kernel
theorem d_M_band_110 : decode b_M_band 110 = .ok (.iconst 2, 1) := by decide +kernel
theorem d_M_band_111 : decode b_M_band 111 = .ok (.iadd, 1) := by decide +kernel
theorem d_M_band_112 : decode b_M_band 112 = .ok (.iaload, 1) := by decide +kernel
theorem d_M_band_113 : decode b_M_band 113 = .ok (.iload_n 3, 1) := by decide +kernel
theorem d_M_band_114 : decode b_M_band 114 = .ok (.if_icmp .gt 7, 3) := by decide +kernel
theorem d_M_band_117 : decode b_M_band 117 = .ok (.iconst 1, 1) := by decide +kernel
theorem d_M_band_118 : decode b_M_band 118 = .ok (.goto 4, 3) := by decide +kernel
theorem d_M_band_121 : decode b_M_band 121 = .ok (.iconst 0, 1) := by decide +kernel
theorem d_M_band_122 : decode b_M_band 122 = .ok (.istore 6, 2) := by decide +kernel
theorem d_M_band_124 : decode b_M_band 124 = .ok (.iinc 7 1, 3) := by decide +kernel
theorem d_M_band_127 : decode b_M_band 127 = .ok (.goto (-83), 3) := by decide +kernel
theorem d_M_band_130 : decode b_M_band 130 = .ok (.iload 4, 2) := by decide +kernel
theorem d_M_band_132 : decode b_M_band 132 = .ok (.iload 6, 2) := by decide +kernel
theorem d_M_band_134 : decode b_M_band 134 = .ok (.ifCond .eq 17, 3) := by decide +kernel
theorem d_M_band_137 : decode b_M_band 137 = .ok (.aload_n 0, 1) := by decide +kernel
theorem d_M_band_138 : decode b_M_band 138 = .ok (.getfield 35, 3) := by decide +kernel
theorem d_M_band_141 : decode b_M_band 141 = .ok (.iload 5, 2) := by decide +kernel
theorem d_M_band_143 : decode b_M_band 143 = .ok (.baload, 1) := by decide +kernel
theorem d_M_band_144 : decode b_M_band 144 = .ok (.ifCond .eq 7, 3) := by decide +kernel
theorem d_M_band_147 : decode b_M_band 147 = .ok (.iconst 1, 1) := by decide +kernel
theorem d_M_band_148 : decode b_M_band 148 = .ok (.goto 4, 3) := by decide +kernel
theorem d_M_band_151 : decode b_M_band 151 = .ok (.iconst 0, 1) := by decide +kernel
theorem d_M_band_152 : decode b_M_band 152 = .ok (.iadd, 1) := by decide +kernel
theorem d_M_band_153 : decode b_M_band 153 = .ok (.istore 4, 2) := by decide +kernel
theorem d_M_band_155 : decode b_M_band 155 = .ok (.iinc 5 1, 3) := by decide +kernel
theorem d_M_band_158 : decode b_M_band 158 = .ok (.goto (-129), 3) := by decide +kernel
theorem d_M_band_161 : decode b_M_band 161 = .ok (.iload 4, 2) := by decide +kernel
theorem d_M_band_163 : decode b_M_band 163 = .ok (.ireturn, 1) := by decide +kernel
theorem d_M_share_0 : decode b_M_share 0 = .ok (.aload_n 0, 1) := by decide +kernel
theorem d_M_share_1 : decode b_M_share 1 = .ok (.iconst 0, 1) := by decide +kernel
theorem d_M_share_2 : decode b_M_share 2 = .ok (.putfield 38, 3) := by decide +kernel
theorem d_M_share_5 : decode b_M_share 5 = .ok (.iload_n 1, 1) := by decide +kernel
theorem d_M_share_6 : decode b_M_share 6 = .ok (.iload_n 2, 1) := by decide +kernel
theorem d_M_share_7 : decode b_M_share 7 = .ok (.invokestatic 55, 3) := by decide +kernel
theorem d_M_share_10 : decode b_M_share 10 = .ok (.ifCond .ne 7, 3) := by decide +kernel
theorem d_M_share_13 : decode b_M_share 13 = .ok (.ldc2_w 80, 3) := by decide +kernel
theorem d_M_share_16 : decode b_M_share 16 = .ok (.lreturn, 1) := by decide +kernel
theorem d_M_share_17 : decode b_M_share 17 = .ok (.aload_n 0, 1) := by decide +kernel
theorem d_M_share_18 : decode b_M_share 18 = .ok (.iload_n 1, 1) := by decide +kernel
theorem d_M_share_19 : decode b_M_share 19 = .ok (.invokevirtual 73, 3) := by decide +kernel
theorem d_M_share_22 : decode b_M_share 22 = .ok (.aload_n 0, 1) := by decide +kernel
theorem d_M_share_23 : decode b_M_share 23 = .ok (.getfield 23, 3) := by decide +kernel
theorem d_M_share_26 : decode b_M_share 26 = .ok (.iload_n 2, 1) := by decide +kernel
theorem d_M_share_27 : decode b_M_share 27 = .ok (.iaload, 1) := by decide +kernel
theorem d_M_share_28 : decode b_M_share 28 = .ok (.istore 4, 2) := by decide +kernel
theorem d_M_share_30 : decode b_M_share 30 = .ok (.aload_n 0, 1) := by decide +kernel
theorem d_M_share_31 : decode b_M_share 31 = .ok (.getfield 67, 3) := by decide +kernel
theorem d_M_share_34 : decode b_M_share 34 = .ok (.istore 5, 2) := by decide +kernel
theorem d_M_share_36 : decode b_M_share 36 = .ok (.iload 5, 2) := by decide +kernel
theorem d_M_share_38 : decode b_M_share 38 = .ok (.ifCond .ne 10, 3) := by decide +kernel
theorem d_M_share_41 : decode b_M_share 41 = .ok (.aload_n 0, 1) := by decide +kernel
theorem d_M_share_42 : decode b_M_share 42 = .ok (.iconst 1, 1) := by decide +kernel
theorem d_M_share_43 : decode b_M_share 43 = .ok (.putfield 38, 3) := by decide +kernel
theorem d_M_share_46 : decode b_M_share 46 = .ok (.lconst 0, 1) := by decide +kernel
theorem d_M_share_47 : decode b_M_share 47 = .ok (.lreturn, 1) := by decide +kernel
theorem d_M_share_48 : decode b_M_share 48 = .ok (.iload 4, 2) := by decide +kernel
theorem d_M_share_50 : decode b_M_share 50 = .ok (.istore 6, 2) := by decide +kernel
theorem d_M_share_52 : decode b_M_share 52 = .ok (.iload 5, 2) := by decide +kernel
theorem d_M_share_54 : decode b_M_share 54 = .ok (.istore 7, 2) := by decide +kernel
theorem d_M_share_56 : decode b_M_share 56 = .ok (.iload 7, 2) := by decide +kernel
theorem d_M_share_58 : decode b_M_share 58 = .ok (.ifCond .le 21, 3) := by decide +kernel
theorem d_M_share_61 : decode b_M_share 61 = .ok (.iload 6, 2) := by decide +kernel
theorem d_M_share_63 : decode b_M_share 63 = .ok (.iload 7, 2) := by decide +kernel
theorem d_M_share_65 : decode b_M_share 65 = .ok (.irem, 1) := by decide +kernel
theorem d_M_share_66 : decode b_M_share 66 = .ok (.istore 8, 2) := by decide +kernel
theorem d_M_share_68 : decode b_M_share 68 = .ok (.iload 7, 2) := by decide +kernel
theorem d_M_share_70 : decode b_M_share 70 = .ok (.istore 6, 2) := by decide +kernel
theorem d_M_share_72 : decode b_M_share 72 = .ok (.iload 8, 2) := by decide +kernel
theorem d_M_share_74 : decode b_M_share 74 = .ok (.istore 7, 2) := by decide +kernel
theorem d_M_share_76 : decode b_M_share 76 = .ok (.goto (-20), 3) := by decide +kernel
theorem d_M_share_79 : decode b_M_share 79 = .ok (.iload_n 3, 1) := by decide +kernel
theorem d_M_share_80 : decode b_M_share 80 = .ok (.ifCond .ne 12, 3) := by decide +kernel
theorem d_M_share_83 : decode b_M_share 83 = .ok (.iload 4, 2) := by decide +kernel
theorem d_M_share_85 : decode b_M_share 85 = .ok (.iload 6, 2) := by decide +kernel
theorem d_M_share_87 : decode b_M_share 87 = .ok (.idiv, 1) := by decide +kernel
theorem d_M_share_88 : decode b_M_share 88 = .ok (.i2l, 1) := by decide +kernel
theorem d_M_share_89 : decode b_M_share 89 = .ok (.goto 9, 3) := by decide +kernel
theorem d_M_share_92 : decode b_M_share 92 = .ok (.iload 5, 2) := by decide +kernel
theorem d_M_share_94 : decode b_M_share 94 = .ok (.iload 6, 2) := by decide +kernel
theorem d_M_share_96 : decode b_M_share 96 = .ok (.idiv, 1) := by decide +kernel
theorem d_M_share_97 : decode b_M_share 97 = .ok (.i2l, 1) := by decide +kernel
theorem d_M_share_98 : decode b_M_share 98 = .ok (.lreturn, 1) := by decide +kernel
theorem d_M_missing_0 : decode b_M_missing 0 = .ok (.aload_n 0, 1) := by decide +kernel
theorem d_M_missing_1 : decode b_M_missing 1 = .ok (.iconst 0, 1) := by decide +kernel
theorem d_M_missing_2 : decode b_M_missing 2 = .ok (.putfield 38, 3) := by decide +kernel
theorem d_M_missing_5 : decode b_M_missing 5 = .ok (.iload_n 1, 1) := by decide +kernel
theorem d_M_missing_6 : decode b_M_missing 6 = .ok (.invokestatic 45, 3) := by decide +kernel
theorem d_M_missing_9 : decode b_M_missing 9 = .ok (.ifCond .ne 5, 3) := by decide +kernel
theorem d_M_missing_12 : decode b_M_missing 12 = .ok (.iconst (-1), 1) := by decide +kernel
theorem d_M_missing_13 : decode b_M_missing 13 = .ok (.ireturn, 1) := by decide +kernel
theorem d_M_missing_14 : decode b_M_missing 14 = .ok (.iconst 0, 1) := by decide +kernel
theorem d_M_missing_15 : decode b_M_missing 15 = .ok (.istore_n 2, 1) := by decide +kernel
theorem d_M_missing_16 : decode b_M_missing 16 = .ok (.aload_n 0, 1) := by decide +kernel
theorem d_M_missing_17 : decode b_M_missing 17 = .ok (.invokevirtual 70, 3) := by decide +kernel
theorem d_M_missing_20 : decode b_M_missing 20 = .ok (.iconst 1, 1) := by decide +kernel
theorem d_M_missing_21 : decode b_M_missing 21 = .ok (.istore_n 3, 1) := by decide +kernel
theorem d_M_missing_22 : decode b_M_missing 22 = .ok (.iload_n 3, 1) := by decide +kernel
theorem d_M_missing_23 : decode b_M_missing 23 = .ok (.aload_n 0, 1) := by decide +kernel
theorem d_M_missing_24 : decode b_M_missing 24 = .ok (.getfield 42, 3) := by decide +kernel
theorem d_M_missing_27 : decode b_M_missing 27 = .ok (.if_icmp .gt 92, 3) := by decide +kernel
theorem d_M_missing_30 : decode b_M_missing 30 = .ok (.iconst 1, 1) := by decide +kernel
theorem d_M_missing_31 : decode b_M_missing 31 = .ok (.istore 4, 2) := by decide +kernel
theorem d_M_missing_33 : decode b_M_missing 33 = .ok (.iconst 0, 1) := by decide +kernel
theorem d_M_missing_34 : decode b_M_missing 34 = .ok (.istore 5, 2) := by decide +kernel
theorem d_M_missing_36 : decode b_M_missing 36 = .ok (.iload 5, 2) := by decide +kernel
theorem d_M_missing_38 : decode b_M_missing 38 = .ok (.aload_n 0, 1) := by decide +kernel
theorem d_M_missing_39 : decode b_M_missing 39 = .ok (.getfield 49, 3) := by decide +kernel
theorem d_M_missing_42 : decode b_M_missing 42 = .ok (.if_icmp .ge 49, 3) := by decide +kernel
theorem d_M_missing_45 : decode b_M_missing 45 = .ok (.iload 4, 2) := by decide +kernel
theorem d_M_missing_47 : decode b_M_missing 47 = .ok (.ifCond .eq 35, 3) := by decide +kernel
theorem d_M_missing_50 : decode b_M_missing 50 = .ok (.aload_n 0, 1) := by decide +kernel
theorem d_M_missing_51 : decode b_M_missing 51 = .ok (.getfield 7, 3) := by decide +kernel
theorem d_M_missing_54 : decode b_M_missing 54 = .ok (.iconst 3, 1) := by decide +kernel
theorem d_M_missing_55 : decode b_M_missing 55 = .ok (.iload 5, 2) := by decide +kernel
theorem d_M_missing_57 : decode b_M_missing 57 = .ok (.imul, 1) := by decide +kernel
theorem d_M_missing_58 : decode b_M_missing 58 = .ok (.iaload, 1) := by decide +kernel
theorem d_M_missing_59 : decode b_M_missing 59 = .ok (.iload_n 3, 1) := by decide +kernel
theorem d_M_missing_60 : decode b_M_missing 60 = .ok (.if_icmp .ne 18, 3) := by decide +kernel
theorem d_M_missing_63 : decode b_M_missing 63 = .ok (.aload_n 0, 1) := by decide +kernel
theorem d_M_missing_64 : decode b_M_missing 64 = .ok (.getfield 7, 3) := by decide +kernel
theorem d_M_missing_67 : decode b_M_missing 67 = .ok (.iconst 3, 1) := by decide +kernel
theorem d_M_missing_68 : decode b_M_missing 68 = .ok (.iload 5, 2) := by decide +kernel
theorem d_M_missing_70 : decode b_M_missing 70 = .ok (.imul, 1) := by decide +kernel
theorem d_M_missing_71 : decode b_M_missing 71 = .ok (.iconst 1, 1) := by decide +kernel
theorem d_M_missing_72 : decode b_M_missing 72 = .ok (.iadd, 1) := by decide +kernel
theorem d_M_missing_73 : decode b_M_missing 73 = .ok (.iaload, 1) := by decide +kernel
theorem d_M_missing_74 : decode b_M_missing 74 = .ok (.iload_n 1, 1) := by decide +kernel
theorem d_M_missing_75 : decode b_M_missing 75 = .ok (.if_icmp .eq 7, 3) := by decide +kernel
theorem d_M_missing_78 : decode b_M_missing 78 = .ok (.iconst 1, 1) := by decide +kernel
theorem d_M_missing_79 : decode b_M_missing 79 = .ok (.goto 4, 3) := by decide +kernel
theorem d_M_missing_82 : decode b_M_missing 82 = .ok (.iconst 0, 1) := by decide +kernel
theorem d_M_missing_83 : decode b_M_missing 83 = .ok (.istore 4, 2) := by decide +kernel
theorem d_M_missing_85 : decode b_M_missing 85 = .ok (.iinc 5 1, 3) := by decide +kernel
theorem d_M_missing_88 : decode b_M_missing 88 = .ok (.goto (-52), 3) := by decide +kernel
theorem d_M_missing_91 : decode b_M_missing 91 = .ok (.iload_n 2, 1) := by decide +kernel
theorem d_M_missing_92 : decode b_M_missing 92 = .ok (.iload 4, 2) := by decide +kernel
theorem d_M_missing_94 : decode b_M_missing 94 = .ok (.ifCond .eq 16, 3) := by decide +kernel
theorem d_M_missing_97 : decode b_M_missing 97 = .ok (.aload_n 0, 1) := by decide +kernel
theorem d_M_missing_98 : decode b_M_missing 98 = .ok (.getfield 35, 3) := by decide +kernel
theorem d_M_missing_101 : decode b_M_missing 101 = .ok (.iload_n 3, 1) := by decide +kernel
theorem d_M_missing_102 : decode b_M_missing 102 = .ok (.baload, 1) := by decide +kernel
theorem d_M_missing_103 : decode b_M_missing 103 = .ok (.ifCond .eq 7, 3) := by decide +kernel
theorem d_M_missing_106 : decode b_M_missing 106 = .ok (.iconst 1, 1) := by decide +kernel
theorem d_M_missing_107 : decode b_M_missing 107 = .ok (.goto 4, 3) := by decide +kernel
theorem d_M_missing_110 : decode b_M_missing 110 = .ok (.iconst 0, 1) := by decide +kernel
theorem d_M_missing_111 : decode b_M_missing 111 = .ok (.iadd, 1) := by decide +kernel
theorem d_M_missing_112 : decode b_M_missing 112 = .ok (.istore_n 2, 1) := by decide +kernel
theorem d_M_missing_113 : decode b_M_missing 113 = .ok (.iinc 3 1, 3) := by decide +kernel
theorem d_M_missing_116 : decode b_M_missing 116 = .ok (.goto (-94), 3) := by decide +kernel
theorem d_M_missing_119 : decode b_M_missing 119 = .ok (.iload_n 2, 1) := by decide +kernel
theorem d_M_missing_120 : decode b_M_missing 120 = .ok (.ireturn, 1) := by decide +kernel
theorem d_M_left_0 : decode b_M_left 0 = .ok (.aload_n 0, 1) := by decide +kernel
theorem d_M_left_1 : decode b_M_left 1 = .ok (.iconst 0, 1) := by decide +kernel
theorem d_M_left_2 : decode b_M_left 2 = .ok (.putfield 38, 3) := by decide +kernel
theorem d_M_left_5 : decode b_M_left 5 = .ok (.iconst 0, 1) := by decide +kernel
theorem d_M_left_6 : decode b_M_left 6 = .ok (.istore_n 2, 1) := by decide +kernel
theorem d_M_left_7 : decode b_M_left 7 = .ok (.aload_n 0, 1) := by decide +kernel
theorem d_M_left_8 : decode b_M_left 8 = .ok (.invokevirtual 70, 3) := by decide +kernel
theorem d_M_left_11 : decode b_M_left 11 = .ok (.iconst 1, 1) := by decide +kernel
theorem d_M_left_12 : decode b_M_left 12 = .ok (.istore_n 3, 1) := by decide +kernel
theorem d_M_left_13 : decode b_M_left 13 = .ok (.iload_n 3, 1) := by decide +kernel
theorem d_M_left_14 : decode b_M_left 14 = .ok (.aload_n 0, 1) := by decide +kernel
theorem d_M_left_15 : decode b_M_left 15 = .ok (.getfield 42, 3) := by decide +kernel
theorem d_M_left_18 : decode b_M_left 18 = .ok (.if_icmp .gt 32, 3) := by decide +kernel
theorem d_M_left_21 : decode b_M_left 21 = .ok (.iload_n 1, 1) := by decide +kernel
theorem d_M_left_22 : decode b_M_left 22 = .ok (.ifCond .lt 28, 3) := by decide +kernel
theorem d_M_left_25 : decode b_M_left 25 = .ok (.aload_n 0, 1) := by decide +kernel
theorem d_M_left_26 : decode b_M_left 26 = .ok (.getfield 35, 3) := by decide +kernel
theorem d_M_left_29 : decode b_M_left 29 = .ok (.iload_n 3, 1) := by decide +kernel
theorem d_M_left_30 : decode b_M_left 30 = .ok (.baload, 1) := by decide +kernel
theorem d_M_left_31 : decode b_M_left 31 = .ok (.ifCond .eq 13, 3) := by decide +kernel
theorem d_M_left_34 : decode b_M_left 34 = .ok (.iload_n 2, 1) := by decide +kernel
theorem d_M_left_35 : decode b_M_left 35 = .ok (.iload_n 1, 1) := by decide +kernel
theorem d_M_left_36 : decode b_M_left 36 = .ok (.if_icmp .ne 5, 3) := by decide +kernel
theorem d_M_left_39 : decode b_M_left 39 = .ok (.iload_n 3, 1) := by decide +kernel
theorem d_M_left_40 : decode b_M_left 40 = .ok (.ireturn, 1) := by decide +kernel
theorem d_M_left_41 : decode b_M_left 41 = .ok (.iinc 2 1, 3) := by decide +kernel
theorem d_M_left_44 : decode b_M_left 44 = .ok (.iinc 3 1, 3) := by decide +kernel
theorem d_M_left_47 : decode b_M_left 47 = .ok (.goto (-34), 3) := by decide +kernel
theorem d_M_left_50 : decode b_M_left 50 = .ok (.iconst 0, 1) := by decide +kernel
theorem d_M_left_51 : decode b_M_left 51 = .ok (.ireturn, 1) := by decide +kernel
end
section
theorem rc_le {x : Int32} {n : Nat} (hn : n < 2 ^ 31) (h : x ≤ 0) : ¬ ∃ j, 1 ≤ j ∧ j ≤ n ∧ x = nI j := by
  rintro ⟨j, h1, h2, rfl⟩
  exact nI_nle (by omega) (by omega) h
theorem rc_ok2 {x : Int32} {n : Nat} (hn : n < 2 ^ 31) (h1 : ¬ x ≤ 0) (h2 : ¬ nI n < x) : ∃ j, 1 ≤ j ∧ j ≤ n ∧ x = nI j := by
  refine rc_ok hn (fun h => h1 ?_) h2
  rw [Int32.lt_iff_toInt_lt, nI_toInt (by omega)] at h
  rw [Int32.le_iff_toInt_le, Int32.toInt_zero]
  omega
section LM
variable (l : Launch) (D : va_G) (tys : List (ClassId × FieldType)) {S : Type} (w : S → va_W) (σ : S)
theorem cM_isFacet (x : Int32) : fx_MI l D cl_s tys w y_M_isFacet (k_M_isFacet :: tb_l) rm_M_isFacet [.int x] σ (fun r u => u = σ ∧ rg_q (∃ j, j < 6 ∧ x = nI j) r) := by
  refine fx_enterI (by decide +kernel) [some (.int x)] rfl (Nat.le_of_ble_eq_true rfl) (Nat.le_of_ble_eq_true rfl) (fun X C hR => ?_)
  refine jr_iload_0 C d_M_isFacet_0 ?_
  refine jr_if_lt (tgt := 14) C d_M_isFacet_1 (by decide) (fun h => ?_) (fun h => ?_)
  · refine jr_iconst (v := nI 0) C d_M_isFacet_14 (by decide) ?_
    exact hR _ _ _ _ d_M_isFacet_15 rfl ⟨rfl, Or.inr ⟨rfl, rg_neg (by omega) h⟩⟩
  · refine jr_iload_0 C d_M_isFacet_4 ?_
    refine jr_bipush (v := nI 6) C d_M_isFacet_5 (by decide) ?_
    refine jr_icmp_ge (tgt := 14) C d_M_isFacet_7 (by decide) (fun h2 => ?_) (fun h2 => ?_)
    · refine jr_iconst (v := nI 0) C d_M_isFacet_14 (by decide) ?_
      exact hR _ _ _ _ d_M_isFacet_15 rfl ⟨rfl, Or.inr ⟨rfl, rg_big (by omega) h2⟩⟩
    · refine jr_iconst (v := nI 1) C d_M_isFacet_10 (by decide) ?_
      refine jr_goto (tgt := 15) C d_M_isFacet_11 (by decide) ?_
      exact hR _ _ _ _ d_M_isFacet_15 rfl ⟨rfl, Or.inl ⟨rfl, rg_in (by omega) h h2⟩⟩
theorem cM_isValue (x y : Int32) : fx_MI l D cl_s tys w y_M_isValue (k_M_isValue :: tb_l) rm_M_isValue [.int x, .int y] σ (fun r u => u = σ ∧ rg_q ((∃ j, j < 6 ∧ x = nI j) ∧ ∃ j, j < 100 ∧ y = nI j) r) := by
  refine fx_enterI (by decide +kernel) [some (.int x), some (.int y)] rfl (Nat.le_of_ble_eq_true rfl) (Nat.le_of_ble_eq_true rfl) (fun X C hR => ?_)
  refine jr_iload_0 C d_M_isValue_0 ?_
  refine qM_M_isFacet C (cM_isFacet l D tys w σ x) ⟨Nat.le_of_ble_eq_true rfl, Nat.le_of_ble_eq_true rfl⟩ (Nat.le_of_ble_eq_true rfl) d_M_isValue_1 (fx_p (fun z hz => ?_))
  rcases hz with ⟨rfl, hz⟩ | ⟨rfl, hz⟩
  · refine jr_if_eq (tgt := 21) C d_M_isValue_4 (by decide) (fun h => ?_) (fun h => ?_)
    · exact absurd h (by decide)
    · refine jr_iload_1 C d_M_isValue_7 ?_
      refine jr_if_lt (tgt := 21) C d_M_isValue_8 (by decide) (fun h1 => ?_) (fun h1 => ?_)
      · refine jr_iconst (v := nI 0) C d_M_isValue_21 (by decide) ?_
        exact hR _ _ _ _ d_M_isValue_22 rfl ⟨rfl, Or.inr ⟨rfl, fun q => rg_neg (by omega) h1 q.2⟩⟩
      · refine jr_iload_1 C d_M_isValue_11 ?_
        refine jr_bipush (v := nI 100) C d_M_isValue_12 (by decide) ?_
        refine jr_icmp_ge (tgt := 21) C d_M_isValue_14 (by decide) (fun h2 => ?_) (fun h2 => ?_)
        · refine jr_iconst (v := nI 0) C d_M_isValue_21 (by decide) ?_
          exact hR _ _ _ _ d_M_isValue_22 rfl ⟨rfl, Or.inr ⟨rfl, fun q => rg_big (by omega) h2 q.2⟩⟩
        · refine jr_iconst (v := nI 1) C d_M_isValue_17 (by decide) ?_
          refine jr_goto (tgt := 22) C d_M_isValue_18 (by decide) ?_
          exact hR _ _ _ _ d_M_isValue_22 rfl ⟨rfl, Or.inl ⟨rfl, hz, rg_in (by omega) h1 h2⟩⟩
  · refine jr_if_eq (tgt := 21) C d_M_isValue_4 (by decide) (fun h => ?_) (fun h => ?_)
    · refine jr_iconst (v := nI 0) C d_M_isValue_21 (by decide) ?_
      exact hR _ _ _ _ d_M_isValue_22 rfl ⟨rfl, Or.inr ⟨rfl, fun q => hz q.1⟩⟩
    · exact absurd nI_0 h
end LM
section LM2
variable (l : Launch) (D : va_G) (q : Nat → Nat) (k : Nat → ClassId) (τ : sm_T)
theorem cM_thrown : fx_MI l D cl_s (ty_M k) (w_M q k) y_M_thrown (k_M_thrown :: tb_l) rm_M_thrown [.ref (q 0)] τ (fun r u => u = τ ∧ r = m_thr τ) := by
  refine fx_enterI (by decide +kernel) [some (.ref (q 0))] rfl (Nat.le_of_ble_eq_true rfl) (Nat.le_of_ble_eq_true rfl) (fun X C hR => ?_)
  refine jr_aload_0 C d_M_thrown_0 ?_
  refine gM_thrown C d_M_thrown_1 ?_
  exact hR _ _ _ _ d_M_thrown_4 rfl ⟨rfl, rfl⟩
theorem cM_isRecord (x : Int32) (n : Nat) (hn : n ≤ 60) (hr : m_rec τ = nI n) : fx_MI l D cl_s (ty_M k) (w_M q k) y_M_isRecord (k_M_isRecord :: tb_l) rm_M_isRecord [.ref (q 0), .int x] τ (fun r u => u = τ ∧ rg_q (∃ j, 1 ≤ j ∧ j ≤ n ∧ x = nI j) r) := by
  refine fx_enterI (by decide +kernel) [some (.ref (q 0)), some (.int x)] rfl (Nat.le_of_ble_eq_true rfl) (Nat.le_of_ble_eq_true rfl) (fun X C hR => ?_)
  refine jr_iload_1 C d_M_isRecord_0 ?_
  refine jr_if_le (tgt := 16) C d_M_isRecord_1 (by decide) (fun h => ?_) (fun h => ?_)
  · refine jr_iconst (v := nI 0) C d_M_isRecord_16 (by decide) ?_
    exact hR _ _ _ _ d_M_isRecord_17 rfl ⟨rfl, Or.inr ⟨rfl, rc_le (by omega) h⟩⟩
  · refine jr_iload_1 C d_M_isRecord_4 ?_
    refine jr_aload_0 C d_M_isRecord_5 ?_
    refine gM_records C d_M_isRecord_6 ?_
    refine jr_eqi hr ?_
    refine jr_icmp_gt (tgt := 16) C d_M_isRecord_9 (by decide) (fun h2 => ?_) (fun h2 => ?_)
    · refine jr_iconst (v := nI 0) C d_M_isRecord_16 (by decide) ?_
      exact hR _ _ _ _ d_M_isRecord_17 rfl ⟨rfl, Or.inr ⟨rfl, rc_gt (by omega) h2⟩⟩
    · refine jr_iconst (v := nI 1) C d_M_isRecord_12 (by decide) ?_
      refine jr_goto (tgt := 17) C d_M_isRecord_13 (by decide) ?_
      exact hR _ _ _ _ d_M_isRecord_17 rfl ⟨rfl, Or.inl ⟨rfl, rc_ok2 (by omega) h h2⟩⟩
theorem cM_find (a : ab_T) (R : Nat → Nat × Nat × Nat) (hv4 : a_v a ≤ 400) (hm : rm_r a R τ) (x y z : Int32) : fx_MI l D cl_s (ty_M k) (w_M q k) y_M_find (k_M_find :: tb_l) rm_M_find [.ref (q 0), .int x, .int y, .int z] τ (fun r u => u = τ ∧ ((∃ j, j < a_v a ∧ r = nI j ∧ nI (R j).1 = x ∧ nI (R j).2.1 = y ∧ nI (R j).2.2 = z) ∨ (r = -1 ∧ ∀ j, j < a_v a → ¬ (nI (R j).1 = x ∧ nI (R j).2.1 = y ∧ nI (R j).2.2 = z)))) := by
  obtain ⟨-, hval, hrow, -⟩ := hm
  refine fx_enterI (by decide +kernel) [some (.ref (q 0)), some (.int x), some (.int y), some (.int z), none] rfl (Nat.le_of_ble_eq_true rfl) (Nat.le_of_ble_eq_true rfl) (fun X C hR => ?_)
  refine jr_iconst (v := nI 0) C d_M_find_0 (by decide) ?_
  refine jr_istore_4 C d_M_find_1 rfl ?_
  have L := lp_up (P := fun i => (∀ j, j < i → ¬ (nI (R j).1 = x ∧ nI (R j).2.1 = y ∧ nI (R j).2.2 = z)) → fx_J X (w_M q k τ) 3 [some (.ref (q 0)), some (.int x), some (.int y), some (.int z), some (.int (nI i))] []) (a_v a) (fun i hi ih hno => ?_)
  · exact L 0 (by omega) (fun j hj => by omega)
  · refine jr_iload_4 C d_M_find_3 ?_
    refine jr_aload_0 C d_M_find_5 ?_
    refine gM_values C d_M_find_6 ?_
    refine jr_eqi hval ?_
    refine jr_N_ge (tgt := 64) C d_M_find_9 (by decide) (by omega) (by omega) (fun h => ?_) (fun h => ?_)
    · refine jr_iconst (v := -1) C d_M_find_64 (by decide) ?_
      exact hR _ _ _ _ d_M_find_65 rfl ⟨rfl, Or.inr ⟨rfl, fun j hj => hno j (by omega)⟩⟩
    · obtain ⟨-, -, -, -, r1, r2, r3⟩ := hrow i h
      have go : ¬ (nI (R i).1 = x ∧ nI (R i).2.1 = y ∧ nI (R i).2.2 = z) → fx_J X (w_M q k τ) 58 [some (.ref (q 0)), some (.int x), some (.int y), some (.int z), some (.int (nI i))] [] := by
        intro hn
        refine jr_incN_4 C d_M_find_58 rfl ?_
        refine jr_goto (tgt := 3) C d_M_find_61 (by decide) ?_
        refine ih h (fun j hj => ?_)
        by_cases e : j = i
        · rw [e]; exact hn
        · exact hno j (by omega)
      refine jr_aload_0 C d_M_find_12 ?_
      refine gM_rows C d_M_find_13 ?_
      refine jr_iconst (v := nI 3) C d_M_find_16 (by decide) ?_
      refine jr_iload_4 C d_M_find_17 ?_
      refine jr_imulN C d_M_find_19 ?_
      refine aM_rows C (by omega) d_M_find_20 ?_
      refine jr_eqi r1 ?_
      refine jr_iload_1 C d_M_find_21 ?_
      refine jr_icmp_ne (tgt := 58) C d_M_find_22 (by decide) (fun h1 => ?_) (fun h1 => ?_)
      · exact go (fun q => h1 q.1)
      · refine jr_aload_0 C d_M_find_25 ?_
        refine gM_rows C d_M_find_26 ?_
        refine jr_iconst (v := nI 3) C d_M_find_29 (by decide) ?_
        refine jr_iload_4 C d_M_find_30 ?_
        refine jr_imulN C d_M_find_32 ?_
        refine jr_iconst (v := nI 1) C d_M_find_33 (by decide) ?_
        refine jr_iaddN C d_M_find_34 ?_
        refine aM_rows C (by omega) d_M_find_35 ?_
        refine jr_eqi r2 ?_
        refine jr_iload_2 C d_M_find_36 ?_
        refine jr_icmp_ne (tgt := 58) C d_M_find_37 (by decide) (fun h2 => ?_) (fun h2 => ?_)
        · exact go (fun q => h2 q.2.1)
        · refine jr_aload_0 C d_M_find_40 ?_
          refine gM_rows C d_M_find_41 ?_
          refine jr_iconst (v := nI 3) C d_M_find_44 (by decide) ?_
          refine jr_iload_4 C d_M_find_45 ?_
          refine jr_imulN C d_M_find_47 ?_
          refine jr_iconst (v := nI 2) C d_M_find_48 (by decide) ?_
          refine jr_iaddN C d_M_find_49 ?_
          refine aM_rows C (by omega) d_M_find_50 ?_
          refine jr_eqi r3 ?_
          refine jr_iload_3 C d_M_find_51 ?_
          refine jr_icmp_ne (tgt := 58) C d_M_find_52 (by decide) (fun h3 => ?_) (fun h3 => ?_)
          · exact go (fun q => h3 q.2.2)
          · refine jr_iload_4 C d_M_find_55 ?_
            exact hR _ _ _ _ d_M_find_57 rfl ⟨rfl, Or.inl ⟨i, h, rfl, h1, h2, h3⟩⟩
theorem cM_lies (p : Nat → Nat) (ht : tr_w p) (f v o : Nat) (hf : f < 6) (hv : v < 100) (ho : o < 100) (hb : ∀ u, u < 100 → m_bro τ (100 * f + u) = en_p (p u)) : fx_MI l D cl_s (ty_M k) (w_M q k) y_M_lies (k_M_lies :: tb_l) rm_M_lies [.ref (q 0), .int (nI f), .int (nI v), .int (nI o)] τ (fun z u => u = τ ∧ z = b01 (bx_b (ab_o p v o))) := by
  refine fx_enterI (by decide +kernel) [some (.ref (q 0)), some (.int (nI f)), some (.int (nI v)), some (.int (nI o)), none] rfl (Nat.le_of_ble_eq_true rfl) (Nat.le_of_ble_eq_true rfl) (fun X C hR => ?_)
  obtain ⟨hp1, hp2, ρ, hρ⟩ := ht
  refine jr_iload_2 C d_M_lies_0 ?_
  refine jr_istore_4 C d_M_lies_1 rfl ?_
  have L := lp_ms (P := fun w => (ab_o p v o ↔ ab_o p w o) → fx_J X (w_M q k τ) 3 [some (.ref (q 0)), some (.int (nI f)), some (.int (nI v)), some (.int (nI o)), some (.int (en_p w))] []) (fun w => if w < 100 then ρ w + 1 else 0) (fun w ih hw => ?_)
  · have := L v Iff.rfl
    rw [en_in hv] at this
    exact this
  · have out : (w = o ∨ 100 ≤ w) → fx_J X (w_M q k τ) 32 [some (.ref (q 0)), some (.int (nI f)), some (.int (nI v)), some (.int (nI o)), some (.int (en_p w))] [] := by
      intro hwo
      refine jr_iload_4 C d_M_lies_32 ?_
      refine jr_iload_3 C d_M_lies_34 ?_
      refine jr_icmp_ne (tgt := 42) C d_M_lies_35 (by decide) (fun h => ?_) (fun h => ?_)
      · refine jr_iconst (v := nI 0) C d_M_lies_42 (by decide) ?_
        have hne : ¬ w = o := fun e => h (by rw [e, en_in ho])
        exact hR _ _ _ _ d_M_lies_43 rfl ⟨rfl, by
          rw [bx_neg.mpr (fun g => ?_)]
          · rfl
          · rcases hwo with e | e
            · exact hne e
            · exact ab_out hp2 e ho (hw.mp g)⟩
      · refine jr_iconst (v := nI 1) C d_M_lies_38 (by decide) ?_
        refine jr_goto (tgt := 43) C d_M_lies_39 (by decide) ?_
        have he : w = o := by
          rcases hwo with e | e
          · exact e
          · rw [en_no e] at h
            exact absurd h.symm (nI_m1 (by omega))
        exact hR _ _ _ _ d_M_lies_43 rfl ⟨rfl, by rw [bx_iff.mpr (hw.mpr (by rw [he]; exact ab_rf p o))]; rfl⟩
    refine jr_iload_4 C d_M_lies_3 ?_
    refine jr_iconst (v := -1) C d_M_lies_5 (by decide) ?_
    refine jr_icmp_eq (tgt := 32) C d_M_lies_6 (by decide) (fun h => ?_) (fun h => ?_)
    · exact out (Or.inr (en_m1.mp h))
    · have hw100 : w < 100 := by
        rcases Nat.lt_or_ge w 100 with g | g
        · exact g
        · exact absurd (en_no g) h
      refine jr_iload_4 C d_M_lies_9 ?_
      refine jr_iload_3 C d_M_lies_11 ?_
      refine jr_icmp_eq (tgt := 32) C d_M_lies_12 (by decide) (fun h2 => ?_) (fun h2 => ?_)
      · exact out (Or.inl ((nI_eq (by omega) (by omega)).mp (by rw [← en_in hw100]; exact h2)))
      · rw [en_in hw100] at h2 ⊢
        refine jr_aload_0 C d_M_lies_15 ?_
        refine gM_broader C d_M_lies_16 ?_
        refine jr_bipush (v := nI 100) C d_M_lies_19 (by decide) ?_
        refine jr_iload_1 C d_M_lies_21 ?_
        refine jr_imulN C d_M_lies_22 ?_
        refine jr_iload_4 C d_M_lies_23 ?_
        refine jr_iaddN C d_M_lies_25 ?_
        refine aM_broader C (by omega) d_M_lies_26 ?_
        refine jr_eqi (hb w hw100) ?_
        refine jr_istore_4 C d_M_lies_27 rfl ?_
        refine jr_goto (tgt := 3) C d_M_lies_29 (by decide) ?_
        refine ih (p w) ?_ ?_
        · try dsimp only
          rw [if_pos hw100]
          split
          · next g => have := hρ w hw100 g; omega
          · omega
        · rw [hw, ab_cs]
          constructor
          · rintro (e | e)
            · exact absurd (by rw [e]) h2
            · exact e
          · exact Or.inr
end LM2
end
section
theorem ct_one {p p2 : Nat → Bool} {N k : Nat} (hk : k < N) (h : ∀ i, i < N → i ≠ k → p2 i = p i) : ct_n p2 N + (if p k = true then 1 else 0) = ct_n p N + (if p2 k = true then 1 else 0) := by
  cases hp : p k <;> cases hp2 : p2 k
  · rw [ct_congr (p := p2) (q := p) (fun i hi => by
      by_cases e : i = k
      · rw [e, hp, hp2]
      · exact h i hi e)]
    try rfl
  · rw [ct_up hk hp hp2 h]
    simp
  · rw [ct_up (p := p2) (q := p) hk hp2 hp (fun i hi e => (h i hi e).symm)]
    simp
  · rw [ct_congr (p := p2) (q := p) (fun i hi => by
      by_cases e : i = k
      · rw [e, hp, hp2]
      · exact h i hi e)]
theorem ct_swap {α : Type} (R : Nat → α) (g : α → Bool) (N k : Nat) (hk : k ≤ N) : ct_n (fun i => g (if i = k then R N else R i)) N + (if g (R k) = true then 1 else 0) = ct_n (fun i => g (R i)) (N + 1) := by
  rw [ct_succ]
  by_cases e : k = N
  · subst e
    rw [ct_congr (q := fun i => g (R i)) (fun i hi => by rw [if_neg (by omega)])]
  · have h := ct_one (p := fun i => g (R i)) (p2 := fun i => g (if i = k then R N else R i)) (N := N) (k := k) (by omega) (fun i _ hi => by rw [if_neg hi])
    rw [if_pos rfl] at h
    exact h
/-- who has it stands in a row, and the other way round -/
theorem pm_own {a : ab_T} {R : Nat → Nat × Nat × Nat} {τ : sm_T} (hm : rm_r a R τ) (r f v : Nat) : a_own a r f v = true ↔ ∃ j, j < a_v a ∧ R j = (r, f, v) := by
  have h := hm.2.2.2.1 r f v
  constructor
  · intro ho
    rw [if_pos ho] at h
    obtain ⟨j, h1, h2⟩ := ct_some (by rw [h]; omega)
    exact ⟨j, h1, of_decide_eq_true h2⟩
  · rintro ⟨j, h1, h2⟩
    cases ho : a_own a r f v with
    | true => rfl
    | false =>
      rw [if_neg (by rw [ho]; decide)] at h
      have := ct_none h h1
      simp [h2] at this
theorem pm_pos {a : ab_T} {R : Nat → Nat × Nat × Nat} {τ : sm_T} (hm : rm_r a R τ) (r f v : Nat) (h : a_own a r f v = true) : 0 < a_v a := by
  obtain ⟨j, h1, -⟩ := (pm_own hm r f v).mp h
  omega
theorem pm_cnt {a : ab_T} {R : Nat → Nat × Nat × Nat} {τ : sm_T} (hm : rm_r a R τ) (r f : Nat) : ct_n (fun k => decide ((R k).1 = r) && decide ((R k).2.1 = f)) (a_v a) = ct_n (fun u => a_own a r f u) 100 := by
  rw [← ct_rows _ (fun k => (R k).2.2) 100 (a_v a) (fun k hk => (hm.2.2.1 k hk).2.2.2.1), ← sm_ct]
  refine sm_congr (fun v hv => ?_)
  rw [← hm.2.2.2.1 r f v]
  refine ct_congr (fun k hk => ?_)
  apply bl_eq
  rw [Bool.and_eq_true, Bool.and_eq_true, decide_eq_true_eq, decide_eq_true_eq, decide_eq_true_eq, beq_iff_eq]
  constructor
  · rintro ⟨⟨h1, h2⟩, h3⟩
    rw [← h1, ← h2, ← h3]
  · intro h
    rw [h]
    exact ⟨⟨rfl, rfl⟩, rfl⟩
theorem pm_val {a : ab_T} {R : Nat → Nat × Nat × Nat} {τ : sm_T} (hm : rm_r a R τ) {r f v : Nat} (hr1 : 1 ≤ r) (hr : r ≤ a_n a) (hf : f < 6) (hv : v < 100) (ho : a_own a r f v = false) {rows : Nat → Int32}
    (h1 : rows (3 * a_v a) = nI r) (h2 : rows (3 * a_v a + 1) = nI f) (h3 : rows (3 * a_v a + 2) = nI v) (h4 : ∀ i, i < 3 * a_v a → rows i = m_rows τ i) :
    rm_r (a_val a r f v) (fun k => if k = a_v a then (r, f, v) else R k) (ms_val (ms_rows τ rows) (nI (a_v a + 1))) := by
  obtain ⟨g1, g2, g3, g4, g5, g6, g7⟩ := hm
  refine ⟨g1, rfl, fun k hk => ?_, fun r2 f2 v2 => ?_, g5, g6, g7⟩
  · have hk : k < a_v a + 1 := hk
    show 1 ≤ (if k = a_v a then (r, f, v) else R k).1 ∧ (if k = a_v a then (r, f, v) else R k).1 ≤ a_n a ∧ (if k = a_v a then (r, f, v) else R k).2.1 < 6 ∧ (if k = a_v a then (r, f, v) else R k).2.2 < 100 ∧ rows (3 * k) = nI (if k = a_v a then (r, f, v) else R k).1 ∧ rows (3 * k + 1) = nI (if k = a_v a then (r, f, v) else R k).2.1 ∧ rows (3 * k + 2) = nI (if k = a_v a then (r, f, v) else R k).2.2
    by_cases e : k = a_v a
    · rw [if_pos e, e]
      exact ⟨hr1, hr, hf, hv, h1, h2, h3⟩
    · rw [if_neg e, h4 _ (by omega), h4 _ (by omega), h4 _ (by omega)]
      exact g3 k (by omega)
  · show ct_n (fun k => decide ((if k = a_v a then (r, f, v) else R k) = (r2, f2, v2))) (a_v a + 1) = if (if r2 = r ∧ f2 = f ∧ v2 = v then true else a_own a r2 f2 v2) = true then 1 else 0
    rw [ct_succ, if_pos rfl, ct_congr (q := fun k => decide (R k = (r2, f2, v2))) (fun i hi => by rw [if_neg (by omega)]), g4 r2 f2 v2]
    by_cases e : r2 = r ∧ f2 = f ∧ v2 = v
    · obtain ⟨rfl, rfl, rfl⟩ := e
      rw [ho]
      simp
    · rw [if_neg e, if_neg (c := decide ((r, f, v) = (r2, f2, v2)) = true) (fun g => e (by
        have g := of_decide_eq_true g
        simp only [Prod.mk.injEq] at g
        exact ⟨g.1.symm, g.2.1.symm, g.2.2.symm⟩))]
      rfl
theorem pm_gon {a : ab_T} {R : Nat → Nat × Nat × Nat} {τ : sm_T} (hm : rm_r a R τ) {r f v j : Nat} (hj : j < a_v a) (hR : R j = (r, f, v)) {rows : Nat → Int32}
    (h1 : ∀ i, i < 3 → rows (3 * j + i) = m_rows τ (3 * (a_v a - 1) + i)) (h2 : ∀ i, i < 3 * j ∨ 3 * j + 3 ≤ i → rows i = m_rows τ i) :
    rm_r (a_gon a r f v) (fun k => if k = j then R (a_v a - 1) else R k) (ms_val (ms_rows τ rows) (nI (a_v a - 1))) := by
  obtain ⟨g1, g2, g3, g4, g5, g6, g7⟩ := hm
  refine ⟨g1, rfl, fun k hk => ?_, fun r2 f2 v2 => ?_, g5, g6, g7⟩
  · have hk : k < a_v a - 1 := hk
    show 1 ≤ (if k = j then R (a_v a - 1) else R k).1 ∧ (if k = j then R (a_v a - 1) else R k).1 ≤ a_n a ∧ (if k = j then R (a_v a - 1) else R k).2.1 < 6 ∧ (if k = j then R (a_v a - 1) else R k).2.2 < 100 ∧ rows (3 * k) = nI (if k = j then R (a_v a - 1) else R k).1 ∧ rows (3 * k + 1) = nI (if k = j then R (a_v a - 1) else R k).2.1 ∧ rows (3 * k + 2) = nI (if k = j then R (a_v a - 1) else R k).2.2
    by_cases e : k = j
    · rw [if_pos e, e, h1 1 (by omega), h1 2 (by omega), show 3 * j = 3 * j + 0 by omega, h1 0 (by omega)]
      exact g3 (a_v a - 1) (by omega)
    · rw [if_neg e, h2 _ (by omega), h2 _ (by omega), h2 _ (by omega)]
      exact g3 k (by omega)
  · show ct_n (fun k => decide ((if k = j then R (a_v a - 1) else R k) = (r2, f2, v2))) (a_v a - 1) = if (if r2 = r ∧ f2 = f ∧ v2 = v then false else a_own a r2 f2 v2) = true then 1 else 0
    have h := ct_swap R (fun t => decide (t = (r2, f2, v2))) (a_v a - 1) j (by omega)
    rw [show a_v a - 1 + 1 = a_v a by omega, g4 r2 f2 v2, hR] at h
    by_cases e : r2 = r ∧ f2 = f ∧ v2 = v
    · obtain ⟨rfl, rfl, rfl⟩ := e
      have hown : a_own a r2 f2 v2 = true := by
        cases ho : a_own a r2 f2 v2 with
        | true => rfl
        | false =>
          rw [ho] at h
          simp at h
      rw [hown] at h
      simp at h
      simp
      exact h
    · rw [if_neg e]
      rw [if_neg (c := decide ((r, f, v) = (r2, f2, v2)) = true) (fun g => e (by
        have g := of_decide_eq_true g
        simp only [Prod.mk.injEq] at g
        exact ⟨g.1.symm, g.2.1.symm, g.2.2.symm⟩))] at h
      omega
theorem pm_nar {a : ab_T} {R : Nat → Nat × Nat × Nat} {τ : sm_T} (hm : rm_r a R τ) {f v b : Nat} (hv : v < 100) : rm_r (a_nar a f v b) R (ms_bro τ (upd (m_bro τ) (100 * f + v) (en_p b))) := by
  obtain ⟨g1, g2, g3, g4, g5, g6, g7⟩ := hm
  refine ⟨g1, g2, g3, g4, fun f2 v2 hf2 hv2 => ?_, g6, g7⟩
  show upd (m_bro τ) (100 * f + v) (en_p b) (100 * f2 + v2) = en_p (if f2 = f ∧ v2 = v then b else a_par a f2 v2)
  by_cases e : 100 * f2 + v2 = 100 * f + v
  · have e1 : f2 = f := by omega
    have e2 : v2 = v := by omega
    subst e1 e2
    rw [pk_us, if_pos ⟨rfl, rfl⟩]
  · rw [pk_un e, g5 f2 v2 hf2 hv2, if_neg (fun q => e (by rw [q.1, q.2]))]
theorem pm_cho {a : ab_T} {R : Nat → Nat × Nat × Nat} {τ : sm_T} (hm : rm_r a R τ) {f v : Nat} (hv : v < 100) : rm_r (a_chS a f v) R (ms_cho τ (upd (m_cho τ) (100 * f + v) (b01 (!a_cho a f v)))) := by
  obtain ⟨g1, g2, g3, g4, g5, g6, g7⟩ := hm
  refine ⟨g1, g2, g3, g4, g5, fun f2 v2 hf2 hv2 => ?_, g7⟩
  show upd (m_cho τ) (100 * f + v) (b01 (!a_cho a f v)) (100 * f2 + v2) = b01 (if f2 = f ∧ v2 = v then !a_cho a f2 v2 else a_cho a f2 v2)
  by_cases e : 100 * f2 + v2 = 100 * f + v
  · have e1 : f2 = f := by omega
    have e2 : v2 = v := by omega
    subst e1 e2
    rw [pk_us, if_pos ⟨rfl, rfl⟩]
  · rw [pk_un e, g6 f2 v2 hf2 hv2, if_neg (fun q => e (by rw [q.1, q.2]))]
theorem pm_hit {a : ab_T} {R : Nat → Nat × Nat × Nat} {τ : sm_T} (hm : rm_r a R τ) {r : Nat} {on : Bool} : rm_r (a_hiS a r on) R (ms_hits τ (upd (m_hits τ) r (b01 on))) := by
  obtain ⟨g1, g2, g3, g4, g5, g6, g7⟩ := hm
  refine ⟨g1, g2, g3, g4, g5, g6, fun r2 h1 h2 => ?_⟩
  show upd (m_hits τ) r (b01 on) r2 = b01 (if r2 = r then on else a_hit a r2)
  by_cases e : r2 = r
  · subst e
    rw [pk_us, if_pos rfl]
  · rw [pk_un e, g7 r2 h1 h2, if_neg e]
theorem pm_hv {a : ab_T} {R : Nat → Nat × Nat × Nat} {τ : sm_T} (hm : rm_r a R τ) (r f v : Nat) : a_has a r f v ↔ ∃ j, j < a_v a ∧ (R j).1 = r ∧ (R j).2.1 = f ∧ ab_o (a_par a f) (R j).2.2 v := by
  constructor
  · rintro ⟨w, h1, h2, h3⟩
    obtain ⟨j, g1, g2⟩ := (pm_own hm r f w).mp h2
    exact ⟨j, g1, by rw [g2], by rw [g2], by rw [g2]; exact h3⟩
  · rintro ⟨j, h1, h2, h3, h4⟩
    exact ⟨(R j).2.2, (hm.2.2.1 j h1).2.2.2.1, (pm_own hm r f _).mpr ⟨j, h1, by rw [← h2, ← h3]⟩, h4⟩
end
section
section PM
variable (l : Launch) (D : va_G) (q : Nat → Nat) (k : Nat → ClassId) (τ : sm_T) (a : ab_T) (R : Nat → Nat × Nat × Nat)
theorem cM_record (hw : a_wf a) (hm : rm_r a R τ) : fx_MI l D cl_s (ty_M k) (w_M q k) y_M_record (k_M_record :: tb_l) rm_M_record [.ref (q 0)] τ (fun r u => r = (sp_record a).1 ∧ rm_r (sp_record a).2 R u) := by
  have hn := hw.1
  refine fx_enterI (by decide +kernel) [some (.ref (q 0))] rfl (Nat.le_of_ble_eq_true rfl) (Nat.le_of_ble_eq_true rfl) (fun X C hR => ?_)
  refine jr_aload_0 C d_M_record_0 ?_
  refine jr_iconst (v := nI 0) C d_M_record_1 (by decide) ?_
  refine pM_thrown C d_M_record_2 ?_
  refine jr_aload_0 C d_M_record_5 ?_
  refine gM_records C d_M_record_6 ?_
  refine jr_eqi hm.1 ?_
  refine jr_bipush (v := nI 60) C d_M_record_9 (by decide) ?_
  unfold sp_record at hR
  refine jr_N_ne (tgt := 16) C d_M_record_11 (by decide) (by omega) (by omega) (fun h => ?_) (fun h => ?_)
  · refine jr_aload_0 C d_M_record_16 ?_
    refine jr_dup C d_M_record_17 rfl ?_
    refine gM_records C d_M_record_18 ?_
    refine jr_eqi hm.1 ?_
    refine jr_iconst (v := nI 1) C d_M_record_21 (by decide) ?_
    refine jr_iaddN C d_M_record_22 ?_
    refine pM_records C d_M_record_23 ?_
    refine jr_aload_0 C d_M_record_26 ?_
    refine gM_records C d_M_record_27 ?_
    rw [if_neg h] at hR
    obtain ⟨h1, h2, h3, h4, h5, h6, h7⟩ := hm
    exact hR _ _ _ _ d_M_record_30 rfl ⟨rfl, ⟨rfl, h2, fun k hk => ⟨(h3 k hk).1, by have := (h3 k hk).2.1; show (R k).1 ≤ a_n a + 1; omega, (h3 k hk).2.2⟩, h4, h5, h6, h7⟩⟩
  · refine jr_iconst (v := nI 0) C d_M_record_14 (by decide) ?_
    rw [if_pos h] at hR
    exact hR _ _ _ _ d_M_record_15 rfl ⟨rfl, hm⟩
theorem cM_hit (hw : a_wf a) (hm : rm_r a R τ) (x : Int32) (on : Bool) : fx_MI l D cl_s (ty_M k) (w_M q k) y_M_hit (k_M_hit :: tb_l) rm_M_hit [.ref (q 0), .int x, .int (b01 on)] τ (fun r u => r = (sp_hit a x on).1 ∧ rm_r (sp_hit a x on).2 R u) := by
  have hn := hw.1
  refine fx_enterI (by decide +kernel) [some (.ref (q 0)), some (.int x), some (.int (b01 on)), none, none] rfl (Nat.le_of_ble_eq_true rfl) (Nat.le_of_ble_eq_true rfl) (fun X C hR => ?_)
  unfold sp_hit at hR
  refine jr_aload_0 C d_M_hit_0 ?_
  refine jr_iconst (v := nI 0) C d_M_hit_1 (by decide) ?_
  refine pM_thrown C d_M_hit_2 ?_
  refine jr_aload_0 C d_M_hit_5 ?_
  refine jr_iload_1 C d_M_hit_6 ?_
  refine qM_M_isRecord C (cM_isRecord l D q k (ms_thr τ (nI 0)) x (a_n a) hn hm.1) rfl ⟨Nat.le_of_ble_eq_true rfl, Nat.le_of_ble_eq_true rfl⟩ (Nat.le_of_ble_eq_true rfl) d_M_hit_7 (fx_p (fun z hz => ?_))
  rcases hz with ⟨rfl, r, hr1, hr2, rfl⟩ | ⟨rfl, hz⟩
  · rw [rc_in hr1 hr2 (by omega)] at hR
    have hw2 := wf_hiS (on := on) hw hr1 hr2
    have hm2 : rm_r (a_hiS a r on) R (ms_hits (ms_thr τ (nI 0)) (upd (m_hits τ) r (b01 on))) := pm_hit (τ := ms_thr τ (nI 0)) hm
    refine jr_if_ne (tgt := 15) C d_M_hit_10 (by decide) (fun h => ?_) (fun h => ?_)
    · refine jr_aload_0 C d_M_hit_15 ?_
      refine gM_hits C d_M_hit_16 ?_
      refine jr_iload_1 C d_M_hit_19 ?_
      refine jr_iload_2 C d_M_hit_20 ?_
      refine sM_hits C (by omega) (b01_or on) d_M_hit_21 ?_
      refine jr_iconst (v := nI 0) C d_M_hit_22 (by decide) ?_
      refine jr_istore_3 C d_M_hit_23 rfl ?_
      refine jr_iconst (v := nI 1) C d_M_hit_24 (by decide) ?_
      refine jr_istore_4 C d_M_hit_25 rfl ?_
      have h0 : a_hit (a_hiS a r on) 0 = false := ts_nt (fun h => by have := (hw2.2.2.2.1 0 h).1; omega)
      have L := lp_up (P := fun s => 1 ≤ s → fx_J X (w_M q k (ms_hits (ms_thr τ (nI 0)) (upd (m_hits τ) r (b01 on)))) 27 [some (.ref (q 0)), some (.int (nI r)), some (.int (b01 on)), some (.int (nI (ct_n (a_hit (a_hiS a r on)) s))), some (.int (nI s))] []) (a_n a + 1) (fun s hs ih h1 => ?_)
      · have := L 1 (by omega) (Nat.le_refl 1)
        rw [show ct_n (a_hit (a_hiS a r on)) 1 = 0 from ct_sf h0] at this
        exact this
      · have go : ∀ b, s < a_n a + 1 → ct_n (a_hit (a_hiS a r on)) s + b = ct_n (a_hit (a_hiS a r on)) (s + 1) → fx_J X (w_M q k (ms_hits (ms_thr τ (nI 0)) (upd (m_hits τ) r (b01 on)))) 52 [some (.ref (q 0)), some (.int (nI r)), some (.int (b01 on)), some (.int (nI (ct_n (a_hit (a_hiS a r on)) s))), some (.int (nI s))] [.int (nI b), .int (nI (ct_n (a_hit (a_hiS a r on)) s))] := by
          intro b h2 hb
          refine jr_iaddN C d_M_hit_52 ?_
          refine jr_istore_3 C d_M_hit_53 rfl ?_
          refine jr_incN_4 C d_M_hit_54 rfl ?_
          refine jr_goto (tgt := 27) C d_M_hit_57 (by decide) ?_
          rw [hb]
          exact ih h2 (by omega)
        refine jr_iload_4 C d_M_hit_27 ?_
        refine jr_aload_0 C d_M_hit_29 ?_
        refine gM_records C d_M_hit_30 ?_
        refine jr_eqi hm.1 ?_
        refine jr_N_gt (tgt := 60) C d_M_hit_33 (by decide) (by omega) (by omega) (fun h2 => ?_) (fun h2 => ?_)
        · refine jr_iload_3 C d_M_hit_60 ?_
          exact hR _ _ _ _ d_M_hit_61 rfl ⟨congrArg nI (by
            rw [show s = a_n a + 1 by omega]
            exact (ct_ext (by omega) (fun i h1 h2 => ts_nt (fun g => by have : i ≤ a_n a := (hw2.2.2.2.1 i g).2; omega))).symm), hm2⟩
        · refine jr_iload_3 C d_M_hit_36 ?_
          refine jr_aload_0 C d_M_hit_37 ?_
          refine gM_hits C d_M_hit_38 ?_
          refine jr_iload_4 C d_M_hit_41 ?_
          refine aM_hits C (by omega) d_M_hit_43 ?_
          refine jr_eqi (hm2.2.2.2.2.2.2 s h1 (by omega)) ?_
          refine jr_if_eq (tgt := 51) C d_M_hit_44 (by decide) (fun h3 => ?_) (fun h3 => ?_)
          · rw [b01_eq] at h3
            refine jr_iconst (v := nI 0) C d_M_hit_51 (by decide) ?_
            exact go 0 (by omega) (ct_sf h3).symm
          · rw [b01_ne] at h3
            refine jr_iconst (v := nI 1) C d_M_hit_47 (by decide) ?_
            refine jr_goto (tgt := 52) C d_M_hit_48 (by decide) ?_
            exact go 1 (by omega) (ct_st h3).symm
    · exact absurd h (by decide)
  · rw [rc_no (by omega) hz] at hR
    refine jr_if_ne (tgt := 15) C d_M_hit_10 (by decide) (fun h => ?_) (fun h => ?_)
    · exact absurd nI_0 h
    · refine jr_iconst (v := -1) C d_M_hit_13 (by decide) ?_
      exact hR _ _ _ _ d_M_hit_14 rfl ⟨rfl, hm⟩
theorem cM_narrower (hw : a_wf a) (hm : rm_r a R τ) (y z b : Int32) : fx_MI l D cl_s (ty_M k) (w_M q k) y_M_narrower (k_M_narrower :: tb_l) rm_M_narrower [.ref (q 0), .int y, .int z, .int b] τ (fun r u => r = (sp_narrower a y z b).1 ∧ rm_r (sp_narrower a y z b).2 R u) := by
  refine fx_enterI (by decide +kernel) [some (.ref (q 0)), some (.int y), some (.int z), some (.int b)] rfl (Nat.le_of_ble_eq_true rfl) (Nat.le_of_ble_eq_true rfl) (fun X C hR => ?_)
  unfold sp_narrower at hR
  refine jr_aload_0 C d_M_narrower_0 ?_
  refine jr_iconst (v := nI 0) C d_M_narrower_1 (by decide) ?_
  refine pM_thrown C d_M_narrower_2 ?_
  refine jr_iload_1 C d_M_narrower_5 ?_
  refine jr_iload_2 C d_M_narrower_6 ?_
  refine qM_M_isValue C (cM_isValue l D (ty_M k) (w_M q k) (ms_thr τ (nI 0)) y z) ⟨Nat.le_of_ble_eq_true rfl, Nat.le_of_ble_eq_true rfl⟩ (Nat.le_of_ble_eq_true rfl) d_M_narrower_7 (fx_p (fun z1 h1 => ?_))
  rcases h1 with ⟨rfl, ⟨f, hf, rfl⟩, v, hv, rfl⟩ | ⟨rfl, h1⟩
  · rw [ix_in hf (by omega), ix_in hv (by omega)] at hR
    refine jr_if_eq (tgt := 36) C d_M_narrower_10 (by decide) (fun e1 => ?_) (fun e1 => ?_)
    · exact absurd e1 (by decide)
    · have fin : ∀ p, p ≤ 100 → b = en_p p → (∀ r u pc pl2, decode b_M_narrower pc = .ok (.ireturn, 1) → narrow .int (.int r) = .int r → r = nI 1 ∧ rm_r (a_nar a f v p) R u → fx_J X (w_M q k u) pc pl2 [.int r]) → fx_J X (w_M q k (ms_thr τ (nI 0))) 38 [some (.ref (q 0)), some (.int (nI f)), some (.int (nI v)), some (.int b)] [] := by
        intro p hp hb hR
        rw [hb]
        refine jr_aload_0 C d_M_narrower_38 ?_
        refine gM_broader C d_M_narrower_39 ?_
        refine jr_bipush (v := nI 100) C d_M_narrower_42 (by decide) ?_
        refine jr_iload_1 C d_M_narrower_44 ?_
        refine jr_imulN C d_M_narrower_45 ?_
        refine jr_iload_2 C d_M_narrower_46 ?_
        refine jr_iaddN C d_M_narrower_47 ?_
        refine jr_iload_3 C d_M_narrower_48 ?_
        refine sM_broader C (by omega) d_M_narrower_49 ?_
        refine jr_iconst (v := nI 1) C d_M_narrower_50 (by decide) ?_
        exact hR _ _ _ _ d_M_narrower_51 rfl ⟨rfl, pm_nar (τ := ms_thr τ (nI 0)) hm hv⟩
      refine jr_iload_3 C d_M_narrower_13 ?_
      refine jr_iconst (v := -1) C d_M_narrower_14 (by decide) ?_
      refine jr_icmp_eq (tgt := 38) C d_M_narrower_15 (by decide) (fun e3 => ?_) (fun e3 => ?_)
      · subst e3
        exact fin 100 (by omega) (by rfl) hR
      · dsimp only at hR
        rw [if_neg e3] at hR
        refine jr_iload_1 C d_M_narrower_18 ?_
        refine jr_iload_3 C d_M_narrower_19 ?_
        refine qM_M_isValue C (cM_isValue l D (ty_M k) (w_M q k) (ms_thr τ (nI 0)) (nI f) b) ⟨Nat.le_of_ble_eq_true rfl, Nat.le_of_ble_eq_true rfl⟩ (Nat.le_of_ble_eq_true rfl) d_M_narrower_20 (fx_p (fun z4 h4 => ?_))
        rcases h4 with ⟨rfl, -, p, hp, rfl⟩ | ⟨rfl, h4⟩
        · rw [ix_in hp (by omega)] at hR
          refine jr_if_eq (tgt := 36) C d_M_narrower_23 (by decide) (fun e4 => ?_) (fun e4 => ?_)
          · exact absurd e4 (by decide)
          · refine jr_aload_0 C d_M_narrower_26 ?_
            refine jr_iload_1 C d_M_narrower_27 ?_
            refine jr_iload_3 C d_M_narrower_28 ?_
            refine jr_iload_2 C d_M_narrower_29 ?_
            refine qM_M_lies C (cM_lies l D q k (ms_thr τ (nI 0)) (a_par a f) (hw.2.2.2.2 f) f p v hf hp hv (fun u hu => hm.2.2.2.2.1 f u hf hu)) rfl ⟨Nat.le_of_ble_eq_true rfl, Nat.le_of_ble_eq_true rfl⟩ (Nat.le_of_ble_eq_true rfl) d_M_narrower_30 (fx_p (fun z5 h5 => ?_))
            rw [h5]
            refine jr_if_eq (tgt := 38) C d_M_narrower_33 (by decide) (fun e5 => ?_) (fun e5 => ?_)
            · rw [b01_eq] at e5
              dsimp only at hR
              rw [if_neg (by rw [e5]; decide)] at hR
              exact fin p (by omega) (en_in hp).symm hR
            · rw [b01_ne] at e5
              dsimp only at hR
              rw [if_pos e5] at hR
              refine jr_iconst (v := nI 0) C d_M_narrower_36 (by decide) ?_
              exact hR _ _ _ _ d_M_narrower_37 rfl ⟨rfl, hm⟩
        · rw [ix_no (by omega) (fun q => h4 ⟨⟨f, hf, rfl⟩, q⟩)] at hR
          refine jr_if_eq (tgt := 36) C d_M_narrower_23 (by decide) (fun e4 => ?_) (fun e4 => ?_)
          · refine jr_iconst (v := nI 0) C d_M_narrower_36 (by decide) ?_
            exact hR _ _ _ _ d_M_narrower_37 rfl ⟨rfl, hm⟩
          · exact absurd nI_0 e4
  · have hno : ix_o 6 y = none ∨ (∃ f, ix_o 6 y = some f) ∧ ix_o 100 z = none := by
      by_cases e : ∃ j, j < 6 ∧ y = nI j
      · obtain ⟨j, hj, rfl⟩ := e
        exact Or.inr ⟨⟨j, ix_in hj (by omega)⟩, ix_no (by omega) (fun q => h1 ⟨⟨j, hj, rfl⟩, q⟩)⟩
      · exact Or.inl (ix_no (by omega) e)
    refine jr_if_eq (tgt := 36) C d_M_narrower_10 (by decide) (fun e1 => ?_) (fun e1 => ?_)
    · refine jr_iconst (v := nI 0) C d_M_narrower_36 (by decide) ?_
      rcases hno with h | ⟨⟨f, h⟩, h2⟩
      · rw [h] at hR
        exact hR _ _ _ _ d_M_narrower_37 rfl ⟨rfl, hm⟩
      · rw [h, h2] at hR
        exact hR _ _ _ _ d_M_narrower_37 rfl ⟨rfl, hm⟩
    · exact absurd nI_0 e1
end PM
end
section
section SM
variable (l : Launch) (D : va_G) (q : Nat → Nat) (k : Nat → ClassId) (τ : sm_T) (a : ab_T) (R : Nat → Nat × Nat × Nat)
theorem cM_sort (hw : a_wf a) (hm : rm_r a R τ) : fx_MV l D cl_s (ty_M k) (w_M q k) y_M_sort (k_M_sort :: tb_l) rm_M_sort [.ref (q 0)] τ (fun u => ∃ A O L m, u = ms_man (ms_lft (ms_one (ms_any τ A) O) L) m ∧ (∀ r, 1 ≤ r → r ≤ a_n a → L r = b01 (bx_b (a_left a r))) ∧ m = nI (sp_many a)) := by
  have hn := hw.1
  have hv4 := hw.2.1
  obtain ⟨m1, m2, m3, m4, m5, m6, m7⟩ := id hm
  have h0 : bx_b (a_left a 0) = false := bx_neg.mpr (fun h => by have := (hw.2.2.2.1 0 h.1).1; omega)
  refine fx_enterV (by decide +kernel) [some (.ref (q 0)), none, none, none] rfl (Nat.le_of_ble_eq_true rfl) (Nat.le_of_ble_eq_true rfl) (fun X C hR => ?_)
  -- the last stretch: who is left
  have PD : ∀ (A O : Nat → Int32) (z1 z2 z3 : Option Value), (∀ g, g < 6 → A g = b01 (bx_b (∃ v, v < 100 ∧ a_cho a g v = true))) → (∀ r f, 1 ≤ r → r ≤ a_n a → f < 6 → O (6 * r + f) = b01 (bx_b (∃ u, u < 100 ∧ a_cho a f u = true ∧ a_has a r f u))) → fx_J X (w_M q k (ms_one (ms_any τ A) O)) 207 [some (.ref (q 0)), z1, z2, z3] [] := by
    intro A O z1 z2 z3 hA hO
    refine jr_aload_0 C d_M_sort_207 ?_
    refine jr_iconst (v := nI 0) C d_M_sort_208 (by decide) ?_
    refine pM_many C d_M_sort_209 ?_
    refine jr_iconst (v := nI 1) C d_M_sort_212 (by decide) ?_
    refine jr_istore_1 C d_M_sort_213 rfl ?_
    have L1 := lp_up (P := fun r => 1 ≤ r → ∀ (L : Nat → Int32) (z2 z3 : Option Value), (∀ s, 1 ≤ s → s < r → L s = b01 (bx_b (a_left a s))) → fx_J X (w_M q k (ms_man (ms_lft (ms_one (ms_any τ A) O) L) (nI (ct_n (fun s => bx_b (a_left a s)) r)))) 214 [some (.ref (q 0)), some (.int (nI r)), z2, z3] []) (a_n a + 1) (fun r hr ih hr1 L z2 z3 hL => ?_)
    · have := L1 1 (by omega) (Nat.le_refl 1) (m_lft τ) z2 z3 (fun s h1 h2 => by omega)
      rw [show ct_n (fun s => bx_b (a_left a s)) 1 = 0 from ct_sf h0] at this
      exact this
    · refine jr_iload_1 C d_M_sort_214 ?_
      refine jr_aload_0 C d_M_sort_215 ?_
      refine gM_records C d_M_sort_216 ?_
      refine jr_eqi m1 ?_
      refine jr_N_gt (tgt := 320) C d_M_sort_219 (by decide) (by omega) (by omega) (fun h => ?_) (fun h => ?_)
      · exact hR _ _ _ d_M_sort_320 ⟨A, O, L, _, rfl, fun s h1 h2 => hL s h1 (by omega), congrArg nI (by
          rw [show r = a_n a + 1 by omega]
          exact (ct_ext (by omega) (fun i h1 h2 => bx_neg.mpr (fun g => by have := (hw.2.2.2.1 i g.1).2; omega))).symm)⟩
      · have hr2 : r ≤ a_n a := h
        refine jr_aload_0 C d_M_sort_222 ?_
        refine gM_left C d_M_sort_223 ?_
        refine jr_iload_1 C d_M_sort_226 ?_
        refine jr_aload_0 C d_M_sort_227 ?_
        refine gM_hits C d_M_sort_228 ?_
        refine jr_iload_1 C d_M_sort_231 ?_
        refine aM_hits C (by omega) d_M_sort_232 ?_
        refine jr_eqi (m7 r hr1 (by omega)) ?_
        refine sM_left C (by omega) (b01_or _) d_M_sort_233 ?_
        refine jr_iconst (v := nI 0) C d_M_sort_234 (by decide) ?_
        refine jr_istore_2 C d_M_sort_235 rfl ?_
        have L2 := lp_up (P := fun f => ∀ L2 : Nat → Int32, (∀ s, s ≠ r → L2 s = L s) → L2 r = b01 (bx_b (a_hit a r = true ∧ ∀ g, g < f → (∃ v, v < 100 ∧ a_cho a g v = true) → ∃ v, v < 100 ∧ a_cho a g v = true ∧ a_has a r g v)) → fx_J X (w_M q k (ms_man (ms_lft (ms_one (ms_any τ A) O) L2) (nI (ct_n (fun s => bx_b (a_left a s)) r)))) 236 [some (.ref (q 0)), some (.int (nI r)), some (.int (nI f)), z3] []) 6 (fun f hf ih2 L2 e1 e2 => ?_)
        · refine L2 0 (by omega) _ (fun s hs => pk_un hs) ?_
          rw [show upd L r (b01 (a_hit a r)) r = b01 (a_hit a r) from pk_us]
          congr 1
          exact (bx_eq ⟨fun g => g.1, fun g => ⟨g, fun g hg => by omega⟩⟩).symm
        · refine jr_iload_2 C d_M_sort_236 ?_
          refine jr_bipush (v := nI 6) C d_M_sort_237 (by decide) ?_
          refine jr_N_ge (tgt := 291) C d_M_sort_239 (by decide) (by omega) (by omega) (fun h2 => ?_) (fun h2 => ?_)
          · have e6 : f = 6 := by omega
            subst e6
            have e3 : L2 r = b01 (bx_b (a_left a r)) := e2
            have go : ∀ b, ct_n (fun s => bx_b (a_left a s)) r + b = ct_n (fun s => bx_b (a_left a s)) (r + 1) → fx_J X (w_M q k (ms_man (ms_lft (ms_one (ms_any τ A) O) L2) (nI (ct_n (fun s => bx_b (a_left a s)) r)))) 310 [some (.ref (q 0)), some (.int (nI r)), some (.int (nI 6)), z3] [.int (nI b), .int (nI (ct_n (fun s => bx_b (a_left a s)) r)), .ref (q 0)] := by
              intro b hb
              refine jr_iaddN C d_M_sort_310 ?_
              refine pM_many C d_M_sort_311 ?_
              refine jr_incN_1 C d_M_sort_314 rfl ?_
              refine jr_goto (tgt := 214) C d_M_sort_317 (by decide) ?_
              rw [hb]
              refine ih (by omega) (by omega) L2 _ _ (fun s h1 h2 => ?_)
              by_cases e : s = r
              · rw [e]; exact e3
              · rw [e1 s e]; exact hL s h1 (by omega)
            refine jr_aload_0 C d_M_sort_291 ?_
            refine jr_dup C d_M_sort_292 rfl ?_
            refine gM_many C d_M_sort_293 ?_
            refine jr_aload_0 C d_M_sort_296 ?_
            refine gM_left C d_M_sort_297 ?_
            refine jr_iload_1 C d_M_sort_300 ?_
            refine aM_left C (by omega) d_M_sort_301 ?_
            refine jr_eqi e3 ?_
            refine jr_if_eq (tgt := 309) C d_M_sort_302 (by decide) (fun h3 => ?_) (fun h3 => ?_)
            · rw [b01_eq] at h3
              refine jr_iconst (v := nI 0) C d_M_sort_309 (by decide) ?_
              exact go 0 (ct_sf h3).symm
            · rw [b01_ne] at h3
              refine jr_iconst (v := nI 1) C d_M_sort_305 (by decide) ?_
              refine jr_goto (tgt := 310) C d_M_sort_306 (by decide) ?_
              exact go 1 (ct_st (p := fun s => bx_b (a_left a s)) h3).symm
          · have fin : ∀ b : Bool, (b = true ↔ (a_hit a r = true ∧ ∀ g, g < f + 1 → (∃ v, v < 100 ∧ a_cho a g v = true) → ∃ v, v < 100 ∧ a_cho a g v = true ∧ a_has a r g v)) → fx_J X (w_M q k (ms_man (ms_lft (ms_one (ms_any τ A) O) L2) (nI (ct_n (fun s => bx_b (a_left a s)) r)))) 284 [some (.ref (q 0)), some (.int (nI r)), some (.int (nI f)), z3] [.int (b01 b), .int (nI r), .ref (q 9)] := by
              intro b hb
              refine sM_left C (by omega) (b01_or _) d_M_sort_284 ?_
              refine jr_incN_2 C d_M_sort_285 rfl ?_
              refine jr_goto (tgt := 236) C d_M_sort_288 (by decide) ?_
              refine ih2 h2 (upd L2 r (b01 b)) (fun s hs => ?_) ?_
              · rw [← e1 s hs]; exact pk_un hs
              · rw [show upd L2 r (b01 b) r = b01 b from pk_us, bx_eq hb.symm]
            refine jr_aload_0 C d_M_sort_242 ?_
            refine gM_left C d_M_sort_243 ?_
            refine jr_iload_1 C d_M_sort_246 ?_
            refine jr_aload_0 C d_M_sort_247 ?_
            refine gM_left C d_M_sort_248 ?_
            refine jr_iload_1 C d_M_sort_251 ?_
            refine aM_left C (by omega) d_M_sort_252 ?_
            refine jr_eqi e2 ?_
            refine jr_if_eq (tgt := 283) C d_M_sort_253 (by decide) (fun h3 => ?_) (fun h3 => ?_)
            · rw [b01_eq, bx_neg] at h3
              refine jr_iconst (v := nI 0) C d_M_sort_283 (by decide) ?_
              exact fin false ⟨fun g => absurd g (by decide), fun g => absurd ⟨g.1, fun g2 hg2 => g.2 g2 (by omega)⟩ h3⟩
            · rw [b01_ne, bx_iff] at h3
              refine jr_aload_0 C d_M_sort_256 ?_
              refine gM_any C d_M_sort_257 ?_
              refine jr_iload_2 C d_M_sort_260 ?_
              refine aM_any C (by omega) d_M_sort_261 ?_
              refine jr_eqi (hA f h2) ?_
              refine jr_if_eq (tgt := 279) C d_M_sort_262 (by decide) (fun h4 => ?_) (fun h4 => ?_)
              · rw [b01_eq, bx_neg] at h4
                refine jr_iconst (v := nI 1) C d_M_sort_279 (by decide) ?_
                refine jr_goto (tgt := 284) C d_M_sort_280 (by decide) ?_
                refine fin true ⟨fun _ => ⟨h3.1, fun g hg => ?_⟩, fun _ => rfl⟩
                by_cases e : g = f
                · rw [e]; exact fun q => absurd q h4
                · exact h3.2 g (by omega)
              · rw [b01_ne, bx_iff] at h4
                refine jr_aload_0 C d_M_sort_265 ?_
                refine gM_one C d_M_sort_266 ?_
                refine jr_bipush (v := nI 6) C d_M_sort_269 (by decide) ?_
                refine jr_iload_1 C d_M_sort_271 ?_
                refine jr_imulN C d_M_sort_272 ?_
                refine jr_iload_2 C d_M_sort_273 ?_
                refine jr_iaddN C d_M_sort_274 ?_
                refine aM_one C (by omega) d_M_sort_275 ?_
                refine jr_eqi (hO r f hr1 hr2 h2) ?_
                refine jr_if_eq (tgt := 283) C d_M_sort_276 (by decide) (fun h5 => ?_) (fun h5 => ?_)
                · rw [b01_eq, bx_neg] at h5
                  refine jr_iconst (v := nI 0) C d_M_sort_283 (by decide) ?_
                  exact fin false ⟨fun g => absurd g (by decide), fun g => absurd (g.2 f (by omega) h4) h5⟩
                · rw [b01_ne, bx_iff] at h5
                  refine jr_iconst (v := nI 1) C d_M_sort_279 (by decide) ?_
                  refine jr_goto (tgt := 284) C d_M_sort_280 (by decide) ?_
                  refine fin true ⟨fun _ => ⟨h3.1, fun g hg => ?_⟩, fun _ => rfl⟩
                  by_cases e : g = f
                  · rw [e]; exact fun _ => h5
                  · exact h3.2 g (by omega)
  -- the rows
  have PC : ∀ A : Nat → Int32, (∀ g, g < 6 → A g = b01 (bx_b (∃ v, v < 100 ∧ a_cho a g v = true))) → ∀ i, i ≤ a_v a → ∀ (O : Nat → Int32) (z2 z3 : Option Value), (∀ r f, 1 ≤ r → r ≤ a_n a → f < 6 → O (6 * r + f) = b01 (bx_b (∃ j, j < i ∧ (R j).1 = r ∧ (R j).2.1 = f ∧ ∃ u, u < 100 ∧ a_cho a f u = true ∧ ab_o (a_par a f) (R j).2.2 u))) → fx_J X (w_M q k (ms_one (ms_any τ A) O)) 93 [some (.ref (q 0)), some (.int (nI i)), z2, z3] [] := by
    intro A hA
    refine lp_up (a_v a) (fun i hi ih O z2 z3 hO => ?_)
    refine jr_iload_1 C d_M_sort_93 ?_
    refine jr_aload_0 C d_M_sort_94 ?_
    refine gM_values C d_M_sort_95 ?_
    refine jr_eqi m2 ?_
    refine jr_N_ge (tgt := 207) C d_M_sort_98 (by decide) (by omega) (by omega) (fun h => ?_) (fun h => ?_)
    · refine PD A O _ _ _ hA (fun r f hr1 hr2 hf => ?_)
      rw [hO r f hr1 hr2 hf]
      congr 1
      refine bx_congr ⟨fun ⟨j, g1, g2, g3, u, g4, g5, g6⟩ => ⟨u, g4, g5, (pm_hv hm r f u).mpr ⟨j, by omega, g2, g3, g6⟩⟩, fun ⟨u, g4, g5, g6⟩ => ?_⟩
      obtain ⟨j, g1, g2, g3, g7⟩ := (pm_hv hm r f u).mp g6
      exact ⟨j, by omega, g2, g3, u, g4, g5, g7⟩
    · obtain ⟨r1, r2, r3, r4, r5, r6, r7⟩ := m3 i h
      obtain ⟨rk, fk, vk, eR⟩ : ∃ rk fk vk, R i = (rk, fk, vk) := ⟨_, _, _, rfl⟩
      rw [eR] at r1 r2 r3 r4 r5 r6 r7
      dsimp only at r1 r2 r3 r4 r5 r6 r7
      obtain ⟨hp1, hp2, ρ, hρ⟩ := hw.2.2.2.2 fk
      refine jr_aload_0 C d_M_sort_101 ?_
      refine gM_rows C d_M_sort_102 ?_
      refine jr_iconst (v := nI 3) C d_M_sort_105 (by decide) ?_
      refine jr_iload_1 C d_M_sort_106 ?_
      refine jr_imulN C d_M_sort_107 ?_
      refine jr_iconst (v := nI 1) C d_M_sort_108 (by decide) ?_
      refine jr_iaddN C d_M_sort_109 ?_
      refine aM_rows C (by omega) d_M_sort_110 ?_
      refine jr_eqi r6 ?_
      refine jr_istore_2 C d_M_sort_111 rfl ?_
      refine jr_aload_0 C d_M_sort_112 ?_
      refine gM_rows C d_M_sort_113 ?_
      refine jr_iconst (v := nI 3) C d_M_sort_116 (by decide) ?_
      refine jr_iload_1 C d_M_sort_117 ?_
      refine jr_imulN C d_M_sort_118 ?_
      refine jr_iconst (v := nI 2) C d_M_sort_119 (by decide) ?_
      refine jr_iaddN C d_M_sort_120 ?_
      refine aM_rows C (by omega) d_M_sort_121 ?_
      refine jr_eqi r7 ?_
      refine jr_istore_3 C d_M_sort_122 rfl ?_
      have L := lp_ms (P := fun w => ∀ (O2 : Nat → Int32) (b : Bool), (∀ i, i ≠ 6 * rk + fk → O2 i = O i) → O2 (6 * rk + fk) = b01 b → ((b = true ∨ ∃ u, u < 100 ∧ a_cho a fk u = true ∧ ab_o (a_par a fk) w u) ↔ ∃ j, j < i + 1 ∧ (R j).1 = rk ∧ (R j).2.1 = fk ∧ ∃ u, u < 100 ∧ a_cho a fk u = true ∧ ab_o (a_par a fk) (R j).2.2 u) → fx_J X (w_M q k (ms_one (ms_any τ A) O2)) 123 [some (.ref (q 0)), some (.int (nI i)), some (.int (nI fk)), some (.int (en_p w))] []) (fun w => if w < 100 then ρ w + 1 else 0) (fun w ihw O2 b e1 e2 e3 => ?_)
      · have := L vk O _ (fun _ _ => rfl) (hO rk fk r1 r2 r3) (by
          rw [bx_iff]
          constructor
          · rintro (⟨j, g1, g⟩ | g)
            · exact ⟨j, by omega, g⟩
            · exact ⟨i, by omega, by rw [eR], by rw [eR], by rw [eR]; exact g⟩
          · rintro ⟨j, g1, g2, g3, g4⟩
            by_cases e : j = i
            · rw [e, eR] at g4
              exact Or.inr g4
            · exact Or.inl ⟨j, by omega, g2, g3, g4⟩)
        rw [en_in r4] at this
        exact this
      · refine jr_iload_3 C d_M_sort_123 ?_
        refine jr_iconst (v := -1) C d_M_sort_124 (by decide) ?_
        refine jr_icmp_eq (tgt := 201) C d_M_sort_125 (by decide) (fun h2 => ?_) (fun h2 => ?_)
        · have hw100 := en_m1.mp h2
          refine jr_incN_1 C d_M_sort_201 rfl ?_
          refine jr_goto (tgt := 93) C d_M_sort_204 (by decide) ?_
          refine ih h O2 _ _ (fun r f hr1 hr2 hf => ?_)
          by_cases e : r = rk ∧ f = fk
          · obtain ⟨rfl, rfl⟩ := e
            rw [e2]
            congr 1
            refine (bx_eq ?_).symm
            rw [← e3]
            constructor
            · rintro (g | ⟨u, g1, g2, g3⟩)
              · exact g
              · exact absurd g3 (ab_out hp2 hw100 g1)
            · exact Or.inl
          · rw [e1 _ (by omega), hO r f hr1 hr2 hf]
            congr 1
            refine bx_congr ⟨fun ⟨j, g1, g⟩ => ⟨j, by omega, g⟩, fun ⟨j, g1, g2, g3, g4⟩ => ?_⟩
            by_cases ej : j = i
            · rw [ej, eR] at g2 g3
              exact absurd ⟨g2.symm, g3.symm⟩ e
            · exact ⟨j, by omega, g2, g3, g4⟩
        · have hw100 : w < 100 := by
            rcases Nat.lt_or_ge w 100 with g | g
            · exact g
            · exact absurd (en_no g) h2
          have fin : ∀ b2 : Bool, (b2 = true ↔ b = true ∨ a_cho a fk w = true) → fx_J X (w_M q k (ms_one (ms_any τ A) O2)) 185 [some (.ref (q 0)), some (.int (nI i)), some (.int (nI fk)), some (.int (en_p w))] [.int (b01 b2), .int (nI (6 * rk + fk)), .ref (q 8)] := by
            intro b2 hb2
            rw [en_in hw100]
            refine sM_one C (by omega) (b01_or _) d_M_sort_185 ?_
            refine jr_aload_0 C d_M_sort_186 ?_
            refine gM_broader C d_M_sort_187 ?_
            refine jr_bipush (v := nI 100) C d_M_sort_190 (by decide) ?_
            refine jr_iload_2 C d_M_sort_192 ?_
            refine jr_imulN C d_M_sort_193 ?_
            refine jr_iload_3 C d_M_sort_194 ?_
            refine jr_iaddN C d_M_sort_195 ?_
            refine aM_broader C (by omega) d_M_sort_196 ?_
            refine jr_eqi (m5 fk w r3 hw100) ?_
            refine jr_istore_3 C d_M_sort_197 rfl ?_
            refine jr_goto (tgt := 123) C d_M_sort_198 (by decide) ?_
            refine ihw (a_par a fk w) ?_ _ b2 (fun s hs => ?_) pk_us ?_
            · try dsimp only
              rw [if_pos hw100]
              split
              · next g => have := hρ w hw100 g; omega
              · omega
            · rw [← e1 s hs]; exact pk_un hs
            · rw [← e3, hb2]
              constructor
              · rintro ((g | g) | ⟨u, g1, g2, g3⟩)
                · exact Or.inl g
                · exact Or.inr ⟨w, hw100, g, ab_rf _ w⟩
                · exact Or.inr ⟨u, g1, g2, ab_up g3⟩
              · rintro (g | ⟨u, g1, g2, g3⟩)
                · exact Or.inl (Or.inl g)
                · rcases ab_cs.mp g3 with g4 | g4
                  · subst g4
                    exact Or.inl (Or.inr g2)
                  · exact Or.inr ⟨u, g1, g2, g4⟩
          refine jr_aload_0 C d_M_sort_128 ?_
          refine gM_one C d_M_sort_129 ?_
          refine jr_bipush (v := nI 6) C d_M_sort_132 (by decide) ?_
          refine jr_aload_0 C d_M_sort_134 ?_
          refine gM_rows C d_M_sort_135 ?_
          refine jr_iconst (v := nI 3) C d_M_sort_138 (by decide) ?_
          refine jr_iload_1 C d_M_sort_139 ?_
          refine jr_imulN C d_M_sort_140 ?_
          refine aM_rows C (by omega) d_M_sort_141 ?_
          refine jr_eqi r5 ?_
          refine jr_imulN C d_M_sort_142 ?_
          refine jr_iload_2 C d_M_sort_143 ?_
          refine jr_iaddN C d_M_sort_144 ?_
          refine jr_aload_0 C d_M_sort_145 ?_
          refine gM_one C d_M_sort_146 ?_
          refine jr_bipush (v := nI 6) C d_M_sort_149 (by decide) ?_
          refine jr_aload_0 C d_M_sort_151 ?_
          refine gM_rows C d_M_sort_152 ?_
          refine jr_iconst (v := nI 3) C d_M_sort_155 (by decide) ?_
          refine jr_iload_1 C d_M_sort_156 ?_
          refine jr_imulN C d_M_sort_157 ?_
          refine aM_rows C (by omega) d_M_sort_158 ?_
          refine jr_eqi r5 ?_
          refine jr_imulN C d_M_sort_159 ?_
          refine jr_iload_2 C d_M_sort_160 ?_
          refine jr_iaddN C d_M_sort_161 ?_
          refine aM_one C (by omega) d_M_sort_162 ?_
          refine jr_eqi e2 ?_
          refine jr_if_ne (tgt := 180) C d_M_sort_163 (by decide) (fun h3 => ?_) (fun h3 => ?_)
          · rw [b01_ne] at h3
            refine jr_iconst (v := nI 1) C d_M_sort_180 (by decide) ?_
            refine jr_goto (tgt := 185) C d_M_sort_181 (by decide) ?_
            exact fin true ⟨fun _ => Or.inl h3, fun _ => rfl⟩
          · rw [b01_eq] at h3
            rw [en_in hw100]
            refine jr_aload_0 C d_M_sort_166 ?_
            refine gM_chosen C d_M_sort_167 ?_
            refine jr_bipush (v := nI 100) C d_M_sort_170 (by decide) ?_
            refine jr_iload_2 C d_M_sort_172 ?_
            refine jr_imulN C d_M_sort_173 ?_
            refine jr_iload_3 C d_M_sort_174 ?_
            refine jr_iaddN C d_M_sort_175 ?_
            refine aM_chosen C (by omega) d_M_sort_176 ?_
            refine jr_eqi (m6 fk w r3 hw100) ?_
            rw [← en_in hw100]
            refine jr_if_eq (tgt := 184) C d_M_sort_177 (by decide) (fun h4 => ?_) (fun h4 => ?_)
            · rw [b01_eq] at h4
              refine jr_iconst (v := nI 0) C d_M_sort_184 (by decide) ?_
              exact fin false (by rw [h3, h4]; simp)
            · rw [b01_ne] at h4
              refine jr_iconst (v := nI 1) C d_M_sort_180 (by decide) ?_
              refine jr_goto (tgt := 185) C d_M_sort_181 (by decide) ?_
              exact fin true ⟨fun _ => Or.inr h4, fun _ => rfl⟩
  -- no mark yet
  have PB : ∀ (A : Nat → Int32) (z1 z2 z3 : Option Value), (∀ g, g < 6 → A g = b01 (bx_b (∃ v, v < 100 ∧ a_cho a g v = true))) → fx_J X (w_M q k (ms_any τ A)) 69 [some (.ref (q 0)), z1, z2, z3] [] := by
    intro A z1 z2 z3 hA
    refine jr_iconst (v := nI 0) C d_M_sort_69 (by decide) ?_
    refine jr_istore_1 C d_M_sort_70 rfl ?_
    have L := lp_up (P := fun i => ∀ O : Nat → Int32, (∀ s, s < i → O s = nI 0) → fx_J X (w_M q k (ms_one (ms_any τ A) O)) 71 [some (.ref (q 0)), some (.int (nI i)), z2, z3] []) 366 (fun i hi ih O hO => ?_)
    · exact L 0 (by omega) (m_one τ) (fun s hs => by omega)
    · refine jr_iload_1 C d_M_sort_71 ?_
      refine jr_sipush (v := nI 366) C d_M_sort_72 (by decide) ?_
      refine jr_N_ge (tgt := 91) C d_M_sort_75 (by decide) (by omega) (by omega) (fun h => ?_) (fun h => ?_)
      · refine jr_iconst (v := nI 0) C d_M_sort_91 (by decide) ?_
        refine jr_istore_1 C d_M_sort_92 rfl ?_
        refine PC A hA 0 (by omega) O _ _ (fun r f h1 h2 h3 => ?_)
        rw [hO _ (by omega), bx_neg.mpr (fun ⟨j, g, _⟩ => by omega)]
        rfl
      · refine jr_aload_0 C d_M_sort_78 ?_
        refine gM_one C d_M_sort_79 ?_
        refine jr_iload_1 C d_M_sort_82 ?_
        refine jr_iconst (v := nI 0) C d_M_sort_83 (by decide) ?_
        refine sM_one C (by omega) (Or.inl rfl) d_M_sort_84 ?_
        refine jr_incN_1 C d_M_sort_85 rfl ?_
        refine jr_goto (tgt := 71) C d_M_sort_88 (by decide) ?_
        refine ih h _ (fun s hs => ?_)
        by_cases e : s = i
        · rw [e]; exact pk_us
        · rw [show upd O i (nI 0) s = O s from pk_un e]; exact hO s (by omega)
  -- is anything chosen
  refine jr_iconst (v := nI 0) C d_M_sort_0 (by decide) ?_
  refine jr_istore_1 C d_M_sort_1 rfl ?_
  have LA := lp_up (P := fun f => ∀ (A : Nat → Int32) (z2 z3 : Option Value), (∀ g, g < f → A g = b01 (bx_b (∃ v, v < 100 ∧ a_cho a g v = true))) → fx_J X (w_M q k (ms_any τ A)) 2 [some (.ref (q 0)), some (.int (nI f)), z2, z3] []) 6 (fun f hf ih A z2 z3 hA => ?_)
  · exact LA 0 (by omega) (m_any τ) _ _ (fun g hg => by omega)
  · refine jr_iload_1 C d_M_sort_2 ?_
    refine jr_bipush (v := nI 6) C d_M_sort_3 (by decide) ?_
    refine jr_N_ge (tgt := 69) C d_M_sort_5 (by decide) (by omega) (by omega) (fun h => ?_) (fun h => ?_)
    · exact PB A _ _ _ (fun g hg => hA g (by omega))
    · refine jr_aload_0 C d_M_sort_8 ?_
      refine gM_any C d_M_sort_9 ?_
      refine jr_iload_1 C d_M_sort_12 ?_
      refine jr_iconst (v := nI 0) C d_M_sort_13 (by decide) ?_
      refine sM_any C (by omega) (Or.inl rfl) d_M_sort_14 ?_
      refine jr_iconst (v := nI 0) C d_M_sort_15 (by decide) ?_
      refine jr_istore_2 C d_M_sort_16 rfl ?_
      have LV := lp_up (P := fun v => ∀ (A2 : Nat → Int32), (∀ g, g ≠ f → A2 g = A g) → A2 f = b01 (bx_b (∃ w, w < v ∧ a_cho a f w = true)) → fx_J X (w_M q k (ms_any τ A2)) 17 [some (.ref (q 0)), some (.int (nI f)), some (.int (nI v)), z3] []) 100 (fun v hv ih2 A2 e1 e2 => ?_)
      · refine LV 0 (by omega) _ (fun g hg => pk_un hg) ?_
        rw [bx_neg.mpr (fun ⟨w, hw, _⟩ => by omega)]
        exact pk_us
      · refine jr_iload_2 C d_M_sort_17 ?_
        refine jr_bipush (v := nI 100) C d_M_sort_18 (by decide) ?_
        refine jr_N_ge (tgt := 63) C d_M_sort_20 (by decide) (by omega) (by omega) (fun h2 => ?_) (fun h2 => ?_)
        · refine jr_incN_1 C d_M_sort_63 rfl ?_
          refine jr_goto (tgt := 2) C d_M_sort_66 (by decide) ?_
          refine ih h A2 _ _ (fun g hg => ?_)
          by_cases e : g = f
          · rw [e, e2, show v = 100 by omega]
          · rw [e1 g e]; exact hA g (by omega)
        · have fin : ∀ b : Bool, (b = true ↔ ∃ w, w < v + 1 ∧ a_cho a f w = true) → fx_J X (w_M q k (ms_any τ A2)) 56 [some (.ref (q 0)), some (.int (nI f)), some (.int (nI v)), z3] [.int (b01 b), .int (nI f), .ref (q 7)] := by
            intro b hb
            refine sM_any C (by omega) (b01_or _) d_M_sort_56 ?_
            refine jr_incN_2 C d_M_sort_57 rfl ?_
            refine jr_goto (tgt := 17) C d_M_sort_60 (by decide) ?_
            refine ih2 h2 _ (fun g hg => ?_) ?_
            · rw [← e1 g hg]; exact pk_un hg
            · rw [bx_eq hb.symm]; exact pk_us
          refine jr_aload_0 C d_M_sort_23 ?_
          refine gM_any C d_M_sort_24 ?_
          refine jr_iload_1 C d_M_sort_27 ?_
          refine jr_aload_0 C d_M_sort_28 ?_
          refine gM_any C d_M_sort_29 ?_
          refine jr_iload_1 C d_M_sort_32 ?_
          refine aM_any C (by omega) d_M_sort_33 ?_
          refine jr_eqi e2 ?_
          refine jr_if_ne (tgt := 51) C d_M_sort_34 (by decide) (fun h3 => ?_) (fun h3 => ?_)
          · rw [b01_ne, bx_iff] at h3
            refine jr_iconst (v := nI 1) C d_M_sort_51 (by decide) ?_
            refine jr_goto (tgt := 56) C d_M_sort_52 (by decide) ?_
            obtain ⟨w, g1, g2⟩ := h3
            exact fin true ⟨fun _ => ⟨w, by omega, g2⟩, fun _ => rfl⟩
          · rw [b01_eq, bx_neg] at h3
            refine jr_aload_0 C d_M_sort_37 ?_
            refine gM_chosen C d_M_sort_38 ?_
            refine jr_bipush (v := nI 100) C d_M_sort_41 (by decide) ?_
            refine jr_iload_1 C d_M_sort_43 ?_
            refine jr_imulN C d_M_sort_44 ?_
            refine jr_iload_2 C d_M_sort_45 ?_
            refine jr_iaddN C d_M_sort_46 ?_
            refine aM_chosen C (by omega) d_M_sort_47 ?_
            refine jr_eqi (m6 f v h h2) ?_
            refine jr_if_eq (tgt := 55) C d_M_sort_48 (by decide) (fun h4 => ?_) (fun h4 => ?_)
            · rw [b01_eq] at h4
              refine jr_iconst (v := nI 0) C d_M_sort_55 (by decide) ?_
              refine fin false ⟨fun g => absurd g (by decide), fun ⟨w, g1, g2⟩ => ?_⟩
              by_cases e : w = v
              · rw [e, h4] at g2
                exact absurd g2 (by decide)
              · exact absurd ⟨w, by omega, g2⟩ h3
            · rw [b01_ne] at h4
              refine jr_iconst (v := nI 1) C d_M_sort_51 (by decide) ?_
              refine jr_goto (tgt := 56) C d_M_sort_52 (by decide) ?_
              exact fin true ⟨fun _ => ⟨v, by omega, h4⟩, fun _ => rfl⟩
end SM
end
section
theorem no_ix {y z : Int32} (h1 : ¬ ((∃ j, j < 6 ∧ y = nI j) ∧ ∃ j, j < 100 ∧ z = nI j)) : ix_o 6 y = none ∨ (∃ f, ix_o 6 y = some f) ∧ ix_o 100 z = none := by
  by_cases e : ∃ j, j < 6 ∧ y = nI j
  · obtain ⟨j, hj, rfl⟩ := e
    exact Or.inr ⟨⟨j, ix_in hj (by omega)⟩, ix_no (by omega) (fun q => h1 ⟨⟨j, hj, rfl⟩, q⟩)⟩
  · exact Or.inl (ix_no (by omega) e)
section PM2
variable (l : Launch) (D : va_G) (q : Nat → Nat) (k : Nat → ClassId) (τ : sm_T) (a : ab_T) (R : Nat → Nat × Nat × Nat)
theorem cM_choose (hw : a_wf a) (hm : rm_r a R τ) (y z : Int32) : fx_MI l D cl_s (ty_M k) (w_M q k) y_M_choose (k_M_choose :: tb_l) rm_M_choose [.ref (q 0), .int y, .int z] τ (fun r u => r = (sp_choose a y z).1 ∧ rm_r (sp_choose a y z).2 R u) := by
  refine fx_enterI (by decide +kernel) [some (.ref (q 0)), some (.int y), some (.int z)] rfl (Nat.le_of_ble_eq_true rfl) (Nat.le_of_ble_eq_true rfl) (fun X C hR => ?_)
  unfold sp_choose at hR
  refine jr_aload_0 C d_M_choose_0 ?_
  refine jr_iconst (v := nI 0) C d_M_choose_1 (by decide) ?_
  refine pM_thrown C d_M_choose_2 ?_
  refine jr_iload_1 C d_M_choose_5 ?_
  refine jr_iload_2 C d_M_choose_6 ?_
  refine qM_M_isValue C (cM_isValue l D (ty_M k) (w_M q k) (ms_thr τ (nI 0)) y z) ⟨Nat.le_of_ble_eq_true rfl, Nat.le_of_ble_eq_true rfl⟩ (Nat.le_of_ble_eq_true rfl) d_M_choose_7 (fx_p (fun z1 h1 => ?_))
  rcases h1 with ⟨rfl, ⟨f, hf, rfl⟩, v, hv, rfl⟩ | ⟨rfl, h1⟩
  · rw [ix_in hf (by omega), ix_in hv (by omega)] at hR
    refine jr_if_ne (tgt := 15) C d_M_choose_10 (by decide) (fun e1 => ?_) (fun e1 => ?_)
    · have fin : ∀ b, b = b01 (!a_cho a f v) → fx_J X (w_M q k (ms_thr τ (nI 0))) 44 [some (.ref (q 0)), some (.int (nI f)), some (.int (nI v))] [.int b, .int (nI (100 * f + v)), .ref (q 4)] := by
        intro b hb
        rw [hb]
        have hm2 : rm_r (a_chS a f v) R (ms_cho (ms_thr τ (nI 0)) (upd (m_cho τ) (100 * f + v) (b01 (!a_cho a f v)))) := pm_cho (τ := ms_thr τ (nI 0)) hm hv
        refine sM_chosen C (by omega) (b01_or _) d_M_choose_44 ?_
        refine jr_aload_0 C d_M_choose_45 ?_
        refine qM_M_sort C (cM_sort l D q k _ (a_chS a f v) R (wf_chS hw) hm2) rfl ⟨Nat.le_of_ble_eq_true rfl, Nat.le_of_ble_eq_true rfl⟩ (Nat.le_of_ble_eq_true rfl) d_M_choose_46 (fun u hu => ?_)
        obtain ⟨A, O, L, m, rfl, -, rfl⟩ := hu
        refine jr_aload_0 C d_M_choose_49 ?_
        refine gM_many C d_M_choose_50 ?_
        exact hR _ _ _ _ d_M_choose_53 rfl ⟨rfl, hm2⟩
      refine jr_aload_0 C d_M_choose_15 ?_
      refine gM_chosen C d_M_choose_16 ?_
      refine jr_bipush (v := nI 100) C d_M_choose_19 (by decide) ?_
      refine jr_iload_1 C d_M_choose_21 ?_
      refine jr_imulN C d_M_choose_22 ?_
      refine jr_iload_2 C d_M_choose_23 ?_
      refine jr_iaddN C d_M_choose_24 ?_
      refine jr_aload_0 C d_M_choose_25 ?_
      refine gM_chosen C d_M_choose_26 ?_
      refine jr_bipush (v := nI 100) C d_M_choose_29 (by decide) ?_
      refine jr_iload_1 C d_M_choose_31 ?_
      refine jr_imulN C d_M_choose_32 ?_
      refine jr_iload_2 C d_M_choose_33 ?_
      refine jr_iaddN C d_M_choose_34 ?_
      refine aM_chosen C (by omega) d_M_choose_35 ?_
      refine jr_eqi (hm.2.2.2.2.2.1 f v hf hv) ?_
      refine jr_if_ne (tgt := 43) C d_M_choose_36 (by decide) (fun e3 => ?_) (fun e3 => ?_)
      · refine jr_iconst (v := nI 0) C d_M_choose_43 (by decide) ?_
        rw [b01_ne] at e3
        exact fin _ (by rw [e3]; rfl)
      · refine jr_iconst (v := nI 1) C d_M_choose_39 (by decide) ?_
        refine jr_goto (tgt := 44) C d_M_choose_40 (by decide) ?_
        rw [b01_eq] at e3
        exact fin _ (by rw [e3]; rfl)
    · exact absurd e1 (by decide)
  · refine jr_if_ne (tgt := 15) C d_M_choose_10 (by decide) (fun e1 => ?_) (fun e1 => ?_)
    · exact absurd nI_0 e1
    · refine jr_iconst (v := -1) C d_M_choose_13 (by decide) ?_
      rcases no_ix h1 with h | ⟨⟨f, h⟩, h2⟩
      · rw [h] at hR
        exact hR _ _ _ _ d_M_choose_14 rfl ⟨rfl, hm⟩
      · rw [h, h2] at hR
        exact hR _ _ _ _ d_M_choose_14 rfl ⟨rfl, hm⟩
theorem cM_left (hw : a_wf a) (hm : rm_r a R τ) (i : Int32) : fx_MI l D cl_s (ty_M k) (w_M q k) y_M_left (k_M_left :: tb_l) rm_M_left [.ref (q 0), .int i] τ (fun r u => sp_left a i r ∧ rm_r a R u) := by
  have hn := hw.1
  have h0 : bx_b (a_left a 0) = false := bx_neg.mpr (fun h => by have := (hw.2.2.2.1 0 h.1).1; omega)
  refine fx_enterI (by decide +kernel) [some (.ref (q 0)), some (.int i), none, none] rfl (Nat.le_of_ble_eq_true rfl) (Nat.le_of_ble_eq_true rfl) (fun X C hR => ?_)
  refine jr_aload_0 C d_M_left_0 ?_
  refine jr_iconst (v := nI 0) C d_M_left_1 (by decide) ?_
  refine pM_thrown C d_M_left_2 ?_
  refine jr_iconst (v := nI 0) C d_M_left_5 (by decide) ?_
  refine jr_istore_2 C d_M_left_6 rfl ?_
  refine jr_aload_0 C d_M_left_7 ?_
  refine qM_M_sort C (cM_sort l D q k (ms_thr τ (nI 0)) a R hw hm) rfl ⟨Nat.le_of_ble_eq_true rfl, Nat.le_of_ble_eq_true rfl⟩ (Nat.le_of_ble_eq_true rfl) d_M_left_8 (fun u hu => ?_)
  obtain ⟨A, O, L, m, rfl, hL, -⟩ := hu
  refine jr_iconst (v := nI 1) C d_M_left_11 (by decide) ?_
  refine jr_istore_3 C d_M_left_12 rfl ?_
  generalize eS : ms_man (ms_lft (ms_one (ms_any (ms_thr τ (nI 0)) A) O) L) m = σ2
  have hrec : m_rec σ2 = nI (a_n a) := by rw [← eS]; exact hm.1
  have hlft : ∀ r, 1 ≤ r → r ≤ a_n a → m_lft σ2 r = b01 (bx_b (a_left a r)) := by rw [← eS]; exact hL
  have hm2 : rm_r a R σ2 := by rw [← eS]; exact hm
  have LL := lp_up (P := fun r => 1 ≤ r → (∀ j, j < r → a_left a j → ¬ nI (ct_n (fun s => bx_b (a_left a s)) j) = i) → fx_J X (w_M q k σ2) 13 [some (.ref (q 0)), some (.int i), some (.int (nI (ct_n (fun s => bx_b (a_left a s)) r))), some (.int (nI r))] []) (a_n a + 1) (fun r hr ih hr1 hno => ?_)
  · have := LL 1 (by omega) (Nat.le_refl 1) (fun j hj hl => by
      rw [show j = 0 by omega] at hl
      exact absurd hl (bx_neg.mp h0))
    rw [show ct_n (fun s => bx_b (a_left a s)) 1 = 0 from ct_sf h0] at this
    exact this
  · have go : ∀ b, b = ct_n (fun s => bx_b (a_left a s)) (r + 1) → r < a_n a + 1 → (a_left a r → ¬ nI (ct_n (fun s => bx_b (a_left a s)) r) = i) → fx_J X (w_M q k σ2) 44 [some (.ref (q 0)), some (.int i), some (.int (nI b)), some (.int (nI r))] [] := by
      intro b hb h2 h3
      refine jr_incN_3 C d_M_left_44 rfl ?_
      refine jr_goto (tgt := 13) C d_M_left_47 (by decide) ?_
      rw [hb]
      refine ih h2 (by omega) (fun j hj hl => ?_)
      by_cases e : j = r
      · rw [e] at hl ⊢; exact h3 hl
      · exact hno j (by omega) hl
    refine jr_iload_3 C d_M_left_13 ?_
    refine jr_aload_0 C d_M_left_14 ?_
    refine gM_records C d_M_left_15 ?_
    refine jr_eqi hrec ?_
    refine jr_N_gt (tgt := 50) C d_M_left_18 (by decide) (by omega) (by omega) (fun h => ?_) (fun h => ?_)
    · refine jr_iconst (v := nI 0) C d_M_left_50 (by decide) ?_
      exact hR _ _ _ _ d_M_left_51 rfl ⟨Or.inr ⟨rfl, fun j hj hl => hno j (by have := (hw.2.2.2.1 j hl.1).2; omega) hl⟩, hm2⟩
    · refine jr_iload_1 C d_M_left_21 ?_
      refine jr_if_lt (tgt := 50) C d_M_left_22 (by decide) (fun h1 => ?_) (fun h1 => ?_)
      · refine jr_iconst (v := nI 0) C d_M_left_50 (by decide) ?_
        exact hR _ _ _ _ d_M_left_51 rfl ⟨Or.inr ⟨rfl, fun j hj hl e => by
          rw [← e] at h1
          exact nI_pos (by have := ct_le (fun s => bx_b (a_left a s)) j; omega) h1⟩, hm2⟩
      · refine jr_aload_0 C d_M_left_25 ?_
        refine gM_left C d_M_left_26 ?_
        refine jr_iload_3 C d_M_left_29 ?_
        refine aM_left C (by omega) d_M_left_30 ?_
        refine jr_eqi (hlft r hr1 (by omega)) ?_
        refine jr_if_eq (tgt := 44) C d_M_left_31 (by decide) (fun h2 => ?_) (fun h2 => ?_)
        · rw [b01_eq] at h2
          exact go _ (ct_sf h2).symm (by omega) (fun hl => absurd hl (bx_neg.mp h2))
        · rw [b01_ne] at h2
          refine jr_iload_2 C d_M_left_34 ?_
          refine jr_iload_1 C d_M_left_35 ?_
          refine jr_icmp_ne (tgt := 41) C d_M_left_36 (by decide) (fun h3 => ?_) (fun h3 => ?_)
          · refine jr_incN_2 C d_M_left_41 rfl ?_
            exact go _ (ct_st (p := fun s => bx_b (a_left a s)) h2).symm (by omega) (fun _ => h3)
          · refine jr_iload_3 C d_M_left_39 ?_
            exact hR _ _ _ _ d_M_left_40 rfl ⟨Or.inl ⟨r, by omega, bx_iff.mp h2, h3, rfl⟩, hm2⟩
theorem cM_value (hw : a_wf a) (hm : rm_r a R τ) (x y z : Int32) : fx_MI l D cl_s (ty_M k) (w_M q k) y_M_value (k_M_value :: tb_l) rm_M_value [.ref (q 0), .int x, .int y, .int z] τ (fun r u => r = (sp_value a x y z).1 ∧ ∃ R2, rm_r (sp_value a x y z).2 R2 u) := by
  have hn := hw.1
  have hv4 := hw.2.1
  refine fx_enterI (by decide +kernel) [some (.ref (q 0)), some (.int x), some (.int y), some (.int z), none, none] rfl (Nat.le_of_ble_eq_true rfl) (Nat.le_of_ble_eq_true rfl) (fun X C hR => ?_)
  unfold sp_value at hR
  refine jr_aload_0 C d_M_value_0 ?_
  refine jr_iconst (v := nI 0) C d_M_value_1 (by decide) ?_
  refine pM_thrown C d_M_value_2 ?_
  refine jr_aload_0 C d_M_value_5 ?_
  refine jr_iload_1 C d_M_value_6 ?_
  refine qM_M_isRecord C (cM_isRecord l D q k (ms_thr τ (nI 0)) x (a_n a) hn hm.1) rfl ⟨Nat.le_of_ble_eq_true rfl, Nat.le_of_ble_eq_true rfl⟩ (Nat.le_of_ble_eq_true rfl) d_M_value_7 (fx_p (fun z0 h0 => ?_))
  rcases h0 with ⟨rfl, r, hr1, hr2, rfl⟩ | ⟨rfl, h0⟩
  · rw [rc_in hr1 hr2 (by omega)] at hR
    refine jr_if_eq (tgt := 42) C d_M_value_10 (by decide) (fun e0 => ?_) (fun e0 => ?_)
    · exact absurd e0 (by decide)
    · refine jr_iload_2 C d_M_value_13 ?_
      refine jr_iload_3 C d_M_value_14 ?_
      refine qM_M_isValue C (cM_isValue l D (ty_M k) (w_M q k) (ms_thr τ (nI 0)) y z) ⟨Nat.le_of_ble_eq_true rfl, Nat.le_of_ble_eq_true rfl⟩ (Nat.le_of_ble_eq_true rfl) d_M_value_15 (fx_p (fun z1 h1 => ?_))
      rcases h1 with ⟨rfl, ⟨f, hf, rfl⟩, v, hv, rfl⟩ | ⟨rfl, h1⟩
      · rw [ix_in hf (by omega), ix_in hv (by omega)] at hR
        dsimp only at hR
        refine jr_if_eq (tgt := 42) C d_M_value_18 (by decide) (fun e1 => ?_) (fun e1 => ?_)
        · exact absurd e1 (by decide)
        · refine jr_aload_0 C d_M_value_21 ?_
          refine jr_iload_1 C d_M_value_22 ?_
          refine jr_iload_2 C d_M_value_23 ?_
          refine jr_iload_3 C d_M_value_24 ?_
          refine qM_M_find C (cM_find l D q k (ms_thr τ (nI 0)) a R hv4 hm (nI r) (nI f) (nI v)) rfl ⟨Nat.le_of_ble_eq_true rfl, Nat.le_of_ble_eq_true rfl⟩ (Nat.le_of_ble_eq_true rfl) d_M_value_25 (fx_p (fun z2 h2 => ?_))
          rcases h2 with ⟨j, hj, rfl, g1, g2, g3⟩ | ⟨rfl, h2⟩
          · obtain ⟨c1, c2, c3, c4, -⟩ := hm.2.2.1 j hj
            have hRj : R j = (r, f, v) := by
              have i1 := (nI_eq (by omega) (by omega)).mp g1
              have i2 := (nI_eq (by omega) (by omega)).mp g2
              have i3 := (nI_eq (by omega) (by omega)).mp g3
              rw [← i1, ← i2, ← i3]
            have hown : a_own a r f v = true := (pm_own hm r f v).mpr ⟨j, hj, hRj⟩
            rw [if_pos (Or.inl hown)] at hR
            refine jr_iconst (v := -1) C d_M_value_28 (by decide) ?_
            refine jr_icmp_ne (tgt := 42) C d_M_value_29 (by decide) (fun e2 => ?_) (fun e2 => ?_)
            · refine jr_iconst (v := nI 0) C d_M_value_42 (by decide) ?_
              exact hR _ _ _ _ d_M_value_43 rfl ⟨rfl, R, hm⟩
            · exact absurd e2 (nI_m1 (by omega))
          · have hown : a_own a r f v = false := ts_nt (fun g => by
              obtain ⟨j, hj, hRj⟩ := (pm_own hm r f v).mp g
              exact h2 j hj (by rw [hRj]; exact ⟨rfl, rfl, rfl⟩))
            refine jr_iconst (v := -1) C d_M_value_28 (by decide) ?_
            refine jr_icmp_ne (tgt := 42) C d_M_value_29 (by decide) (fun e2 => ?_) (fun e2 => ?_)
            · exact absurd rfl e2
            · refine jr_aload_0 C d_M_value_32 ?_
              refine gM_values C d_M_value_33 ?_
              refine jr_eqi hm.2.1 ?_
              refine jr_sipush (v := nI 400) C d_M_value_36 (by decide) ?_
              refine jr_N_ne (tgt := 44) C d_M_value_39 (by decide) (by omega) (by omega) (fun e3 => ?_) (fun e3 => ?_)
              · rw [if_neg (by rw [hown]; rintro (g | g); exact absurd g (by decide); exact e3 g)] at hR
                refine jr_aload_0 C d_M_value_44 ?_
                refine gM_rows C d_M_value_45 ?_
                refine jr_iconst (v := nI 3) C d_M_value_48 (by decide) ?_
                refine jr_aload_0 C d_M_value_49 ?_
                refine gM_values C d_M_value_50 ?_
                refine jr_eqi hm.2.1 ?_
                refine jr_imulN C d_M_value_53 ?_
                refine jr_iload_1 C d_M_value_54 ?_
                refine sM_rows C (by omega) d_M_value_55 ?_
                refine jr_aload_0 C d_M_value_56 ?_
                refine gM_rows C d_M_value_57 ?_
                refine jr_iconst (v := nI 3) C d_M_value_60 (by decide) ?_
                refine jr_aload_0 C d_M_value_61 ?_
                refine gM_values C d_M_value_62 ?_
                refine jr_eqi hm.2.1 ?_
                refine jr_imulN C d_M_value_65 ?_
                refine jr_iconst (v := nI 1) C d_M_value_66 (by decide) ?_
                refine jr_iaddN C d_M_value_67 ?_
                refine jr_iload_2 C d_M_value_68 ?_
                refine sM_rows C (by omega) d_M_value_69 ?_
                refine jr_aload_0 C d_M_value_70 ?_
                refine gM_rows C d_M_value_71 ?_
                refine jr_iconst (v := nI 3) C d_M_value_74 (by decide) ?_
                refine jr_aload_0 C d_M_value_75 ?_
                refine gM_values C d_M_value_76 ?_
                refine jr_eqi hm.2.1 ?_
                refine jr_imulN C d_M_value_79 ?_
                refine jr_iconst (v := nI 2) C d_M_value_80 (by decide) ?_
                refine jr_iaddN C d_M_value_81 ?_
                refine jr_iload_3 C d_M_value_82 ?_
                refine sM_rows C (by omega) d_M_value_83 ?_
                refine jr_aload_0 C d_M_value_84 ?_
                refine jr_dup C d_M_value_85 rfl ?_
                refine gM_values C d_M_value_86 ?_
                refine jr_eqi hm.2.1 ?_
                refine jr_iconst (v := nI 1) C d_M_value_89 (by decide) ?_
                refine jr_iaddN C d_M_value_90 ?_
                refine pM_values C d_M_value_91 ?_
                refine jr_iconst (v := nI 0) C d_M_value_94 (by decide) ?_
                refine jr_istore_4 C d_M_value_95 rfl ?_
                refine jr_iconst (v := nI 0) C d_M_value_97 (by decide) ?_
                refine jr_istore_5 C d_M_value_98 rfl ?_
                have hm2 := pm_val (τ := ms_thr τ (nI 0)) hm hr1 hr2 hf hv hown (rows := upd (upd (upd (m_rows τ) (3 * a_v a) (nI r)) (3 * a_v a + 1) (nI f)) (3 * a_v a + 2) (nI v)) (by rw [pk_un (by omega), pk_un (by omega), pk_us]) (by rw [pk_un (by omega), pk_us]) pk_us (fun i hi => by rw [pk_un (by omega), pk_un (by omega), pk_un (by omega)])
                refine jr_w (ws2 := w_M q k (ms_val (ms_rows (ms_thr τ (nI 0)) (upd (upd (upd (m_rows τ) (3 * a_v a) (nI r)) (3 * a_v a + 1) (nI f)) (3 * a_v a + 2) (nI v))) (nI (a_v a + 1)))) rfl ?_
                generalize ms_val (ms_rows (ms_thr τ (nI 0)) (upd (upd (upd (m_rows τ) (3 * a_v a) (nI r)) (3 * a_v a + 1) (nI f)) (3 * a_v a + 2) (nI v))) (nI (a_v a + 1)) = σ2 at hm2 ⊢
                generalize (fun k => if k = a_v a then (r, f, v) else R k) = R2 at hm2
                have LL := lp_up (P := fun i => fx_J X (w_M q k σ2) 100 [some (.ref (q 0)), some (.int (nI r)), some (.int (nI f)), some (.int (nI v)), some (.int (nI (ct_n (fun k => decide ((R2 k).1 = r) && decide ((R2 k).2.1 = f)) i))), some (.int (nI i))] []) (a_v a + 1) (fun i hi ih => ?_)
                · exact LL 0 (by omega)
                · have go : ∀ b, i < a_v a + 1 → ct_n (fun k => decide ((R2 k).1 = r) && decide ((R2 k).2.1 = f)) i + b = ct_n (fun k => decide ((R2 k).1 = r) && decide ((R2 k).2.1 = f)) (i + 1) → fx_J X (w_M q k σ2) 144 [some (.ref (q 0)), some (.int (nI r)), some (.int (nI f)), some (.int (nI v)), some (.int (nI (ct_n (fun k => decide ((R2 k).1 = r) && decide ((R2 k).2.1 = f)) i))), some (.int (nI i))] [.int (nI b), .int (nI (ct_n (fun k => decide ((R2 k).1 = r) && decide ((R2 k).2.1 = f)) i))] := by
                    intro b h5 hb
                    refine jr_iaddN C d_M_value_144 ?_
                    refine jr_istore_4 C d_M_value_145 rfl ?_
                    refine jr_incN_5 C d_M_value_147 rfl ?_
                    refine jr_goto (tgt := 100) C d_M_value_150 (by decide) ?_
                    rw [hb]
                    exact ih h5
                  refine jr_iload_5 C d_M_value_100 ?_
                  refine jr_aload_0 C d_M_value_102 ?_
                  refine gM_values C d_M_value_103 ?_
                  refine jr_eqi hm2.2.1 ?_
                  refine jr_eqi (show nI (a_v (a_val a r f v)) = nI (a_v a + 1) from rfl) ?_
                  refine jr_N_ge (tgt := 153) C d_M_value_106 (by decide) (by omega) (by omega) (fun h5 => ?_) (fun h5 => ?_)
                  · refine jr_iload_4 C d_M_value_153 ?_
                    exact hR _ _ _ _ d_M_value_155 rfl ⟨congrArg nI (by
                      rw [show i = a_v a + 1 by omega]
                      exact pm_cnt hm2 r f), R2, hm2⟩
                  · obtain ⟨c1, c2, c3, c4, c5, c6, c7⟩ := hm2.2.2.1 i h5
                    have c2 : (R2 i).1 ≤ a_n a := c2
                    refine jr_iload_4 C d_M_value_109 ?_
                    refine jr_aload_0 C d_M_value_111 ?_
                    refine gM_rows C d_M_value_112 ?_
                    refine jr_iconst (v := nI 3) C d_M_value_115 (by decide) ?_
                    refine jr_iload_5 C d_M_value_116 ?_
                    refine jr_imulN C d_M_value_118 ?_
                    refine aM_rows C (by omega) d_M_value_119 ?_
                    refine jr_eqi c5 ?_
                    refine jr_iload_1 C d_M_value_120 ?_
                    refine jr_N_ne (tgt := 143) C d_M_value_121 (by decide) (by omega) (by omega) (fun h6 => ?_) (fun h6 => ?_)
                    · refine jr_iconst (v := nI 0) C d_M_value_143 (by decide) ?_
                      exact go 0 h5 (ct_sf (by simp [h6])).symm
                    · refine jr_aload_0 C d_M_value_124 ?_
                      refine gM_rows C d_M_value_125 ?_
                      refine jr_iconst (v := nI 3) C d_M_value_128 (by decide) ?_
                      refine jr_iload_5 C d_M_value_129 ?_
                      refine jr_imulN C d_M_value_131 ?_
                      refine jr_iconst (v := nI 1) C d_M_value_132 (by decide) ?_
                      refine jr_iaddN C d_M_value_133 ?_
                      refine aM_rows C (by omega) d_M_value_134 ?_
                      refine jr_eqi c6 ?_
                      refine jr_iload_2 C d_M_value_135 ?_
                      refine jr_N_ne (tgt := 143) C d_M_value_136 (by decide) (by omega) (by omega) (fun h7 => ?_) (fun h7 => ?_)
                      · refine jr_iconst (v := nI 0) C d_M_value_143 (by decide) ?_
                        exact go 0 h5 (ct_sf (by simp [h7])).symm
                      · refine jr_iconst (v := nI 1) C d_M_value_139 (by decide) ?_
                        refine jr_goto (tgt := 144) C d_M_value_140 (by decide) ?_
                        exact go 1 h5 (ct_st (p := fun k => decide ((R2 k).1 = r) && decide ((R2 k).2.1 = f)) (by simp [h6, h7])).symm
              · rw [if_pos (Or.inr e3)] at hR
                refine jr_iconst (v := nI 0) C d_M_value_42 (by decide) ?_
                exact hR _ _ _ _ d_M_value_43 rfl ⟨rfl, R, hm⟩
      · refine jr_if_eq (tgt := 42) C d_M_value_18 (by decide) (fun e1 => ?_) (fun e1 => ?_)
        · refine jr_iconst (v := nI 0) C d_M_value_42 (by decide) ?_
          rcases no_ix h1 with h | ⟨⟨f, h⟩, h2⟩
          · rw [h] at hR
            exact hR _ _ _ _ d_M_value_43 rfl ⟨rfl, R, hm⟩
          · rw [h, h2] at hR
            exact hR _ _ _ _ d_M_value_43 rfl ⟨rfl, R, hm⟩
        · exact absurd nI_0 e1
  · rw [rc_no (by omega) h0] at hR
    refine jr_if_eq (tgt := 42) C d_M_value_10 (by decide) (fun e0 => ?_) (fun e0 => ?_)
    · refine jr_iconst (v := nI 0) C d_M_value_42 (by decide) ?_
      exact hR _ _ _ _ d_M_value_43 rfl ⟨rfl, R, hm⟩
    · exact absurd nI_0 e0
theorem cM_gone (hw : a_wf a) (hm : rm_r a R τ) (x y z : Int32) : fx_MI l D cl_s (ty_M k) (w_M q k) y_M_gone (k_M_gone :: tb_l) rm_M_gone [.ref (q 0), .int x, .int y, .int z] τ (fun r u => r = (sp_gone a x y z).1 ∧ ∃ R2, rm_r (sp_gone a x y z).2 R2 u) := by
  have hn := hw.1
  have hv4 := hw.2.1
  refine fx_enterI (by decide +kernel) [some (.ref (q 0)), some (.int x), some (.int y), some (.int z), none, none] rfl (Nat.le_of_ble_eq_true rfl) (Nat.le_of_ble_eq_true rfl) (fun X C hR => ?_)
  unfold sp_gone at hR
  refine jr_aload_0 C d_M_gone_0 ?_
  refine jr_iconst (v := nI 0) C d_M_gone_1 (by decide) ?_
  refine pM_thrown C d_M_gone_2 ?_
  refine jr_aload_0 C d_M_gone_5 ?_
  refine jr_iload_1 C d_M_gone_6 ?_
  refine jr_iload_2 C d_M_gone_7 ?_
  refine jr_iload_3 C d_M_gone_8 ?_
  refine qM_M_find C (cM_find l D q k (ms_thr τ (nI 0)) a R hv4 hm x y z) rfl ⟨Nat.le_of_ble_eq_true rfl, Nat.le_of_ble_eq_true rfl⟩ (Nat.le_of_ble_eq_true rfl) d_M_gone_9 (fx_p (fun z2 h2 => ?_))
  rcases h2 with ⟨j, hj, rfl, rfl, rfl, rfl⟩ | ⟨rfl, h2⟩
  · obtain ⟨c1, c2, c3, c4, -⟩ := hm.2.2.1 j hj
    obtain ⟨r, f, v, eR⟩ : ∃ r f v, R j = (r, f, v) := ⟨_, _, _, rfl⟩
    rw [eR] at c1 c2 c3 c4 hR ⊢
    dsimp only at c1 c2 c3 c4 hR ⊢
    have hown : a_own a r f v = true := (pm_own hm r f v).mpr ⟨j, hj, eR⟩
    rw [rc_in c1 c2 (by omega), ix_in c3 (by omega), ix_in c4 (by omega)] at hR
    dsimp only at hR
    rw [if_pos hown] at hR
    refine jr_istore_4 C d_M_gone_12 rfl ?_
    refine jr_iload_4 C d_M_gone_14 ?_
    refine jr_iconst (v := -1) C d_M_gone_16 (by decide) ?_
    refine jr_icmp_ne (tgt := 22) C d_M_gone_17 (by decide) (fun e1 => ?_) (fun e1 => ?_)
    · refine jr_aload_0 C d_M_gone_22 ?_
      refine jr_dup C d_M_gone_23 rfl ?_
      refine gM_values C d_M_gone_24 ?_
      refine jr_eqi hm.2.1 ?_
      refine jr_iconst (v := nI 1) C d_M_gone_27 (by decide) ?_
      refine jr_isubN C d_M_gone_28 (by omega) ?_
      refine pM_values C d_M_gone_29 ?_
      refine jr_iconst (v := nI 0) C d_M_gone_32 (by decide) ?_
      refine jr_istore_5 C d_M_gone_33 rfl ?_
      have LL := lp_up (P := fun i => ∀ rows : Nat → Int32, (∀ s, s < i → rows (3 * j + s) = m_rows τ (3 * (a_v a - 1) + s)) → (∀ s, s < 3 * j ∨ 3 * j + i ≤ s → rows s = m_rows τ s) → fx_J X (w_M q k (ms_val (ms_rows (ms_thr τ (nI 0)) rows) (nI (a_v a - 1)))) 35 [some (.ref (q 0)), some (.int (nI r)), some (.int (nI f)), some (.int (nI v)), some (.int (nI j)), some (.int (nI i))] []) 3 (fun i hi ih rows g1 g2 => ?_)
      · exact LL 0 (by omega) (m_rows τ) (fun s hs => by omega) (fun s _ => rfl)
      · refine jr_iload_5 C d_M_gone_35 ?_
        refine jr_iconst (v := nI 3) C d_M_gone_37 (by decide) ?_
        refine jr_N_ge (tgt := 73) C d_M_gone_38 (by decide) (by omega) (by omega) (fun h => ?_) (fun h => ?_)
        · have e3 : i = 3 := by omega
          subst e3
          refine jr_iconst (v := nI 1) C d_M_gone_73 (by decide) ?_
          exact hR _ _ _ _ d_M_gone_74 rfl ⟨rfl, _, pm_gon (τ := ms_thr τ (nI 0)) hm hj eR g1 g2⟩
        · refine jr_aload_0 C d_M_gone_41 ?_
          refine gM_rows C d_M_gone_42 ?_
          refine jr_iconst (v := nI 3) C d_M_gone_45 (by decide) ?_
          refine jr_iload_4 C d_M_gone_46 ?_
          refine jr_imulN C d_M_gone_48 ?_
          refine jr_iload_5 C d_M_gone_49 ?_
          refine jr_iaddN C d_M_gone_51 ?_
          refine jr_aload_0 C d_M_gone_52 ?_
          refine gM_rows C d_M_gone_53 ?_
          refine jr_iconst (v := nI 3) C d_M_gone_56 (by decide) ?_
          refine jr_aload_0 C d_M_gone_57 ?_
          refine gM_values C d_M_gone_58 ?_
          refine jr_imulN C d_M_gone_61 ?_
          refine jr_iload_5 C d_M_gone_62 ?_
          refine jr_iaddN C d_M_gone_64 ?_
          refine aM_rows C (by omega) d_M_gone_65 ?_
          refine sM_rows C (by omega) d_M_gone_66 ?_
          refine jr_incN_5 C d_M_gone_67 rfl ?_
          refine jr_goto (tgt := 35) C d_M_gone_70 (by decide) ?_
          refine ih h (upd rows (3 * j + i) (rows (3 * (a_v a - 1) + i))) (fun s hs => ?_) (fun s hs => ?_)
          · by_cases e : s = i
            · rw [e, pk_us]
              exact g2 _ (by omega)
            · rw [pk_un (by omega)]
              exact g1 s (by omega)
          · rw [pk_un (by omega)]
            exact g2 s (by omega)
    · exact absurd e1 (nI_m1 (by omega))
  · refine jr_istore_4 C d_M_gone_12 rfl ?_
    refine jr_iload_4 C d_M_gone_14 ?_
    refine jr_iconst (v := -1) C d_M_gone_16 (by decide) ?_
    refine jr_icmp_ne (tgt := 22) C d_M_gone_17 (by decide) (fun e1 => ?_) (fun e1 => ?_)
    · exact absurd rfl e1
    · refine jr_iconst (v := nI 0) C d_M_gone_20 (by decide) ?_
      by_cases k1 : ∃ j, 1 ≤ j ∧ j ≤ a_n a ∧ x = nI j
      · obtain ⟨r, hr1, hr2, rfl⟩ := k1
        rw [rc_in hr1 hr2 (by omega)] at hR
        by_cases k2 : ∃ j, j < 6 ∧ y = nI j
        · obtain ⟨f, hf, rfl⟩ := k2
          rw [ix_in hf (by omega)] at hR
          by_cases k3 : ∃ j, j < 100 ∧ z = nI j
          · obtain ⟨v, hv, rfl⟩ := k3
            rw [ix_in hv (by omega)] at hR
            dsimp only at hR
            rw [if_neg (fun g => by
              obtain ⟨j, hj, hRj⟩ := (pm_own hm r f v).mp g
              exact h2 j hj (by rw [hRj]; exact ⟨rfl, rfl, rfl⟩))] at hR
            exact hR _ _ _ _ d_M_gone_21 rfl ⟨rfl, R, hm⟩
          · rw [ix_no (by omega) k3] at hR
            exact hR _ _ _ _ d_M_gone_21 rfl ⟨rfl, R, hm⟩
        · rw [ix_no (by omega) k2] at hR
          exact hR _ _ _ _ d_M_gone_21 rfl ⟨rfl, R, hm⟩
      · rw [rc_no (by omega) k1] at hR
        exact hR _ _ _ _ d_M_gone_21 rfl ⟨rfl, R, hm⟩
end PM2
end
section
theorem cl_up {p : Nat → Nat} (hp2 : ∀ v, 100 ≤ v → p v = 100) {Mk : Nat → Prop} (hc : ∀ v, v < 100 → Mk v → p v < 100 → Mk (p v)) : ∀ (n w c : Nat), w < 100 → Mk w → c < 100 → an_k p n w = c → Mk c := by
  intro n
  induction n with
  | zero => intro w c _ h _ e; rw [← e]; exact h
  | succ n ih =>
    intro w c hw h hc2 e
    by_cases h2 : p w < 100
    · exact ih (p w) c h2 (hc w hw h h2) hc2 e
    · exfalso
      have := an_out hp2 n (p w) (by omega)
      have e : an_k p n (p w) = c := e
      omega
section RM
variable (l : Launch) (D : va_G) (q : Nat → Nat) (k : Nat → ClassId) (τ : sm_T) (a : ab_T) (R : Nat → Nat × Nat × Nat)
theorem cM_reckon (hw : a_wf a) (hm : rm_r a R τ) (f : Nat) (hf : f < 6) : fx_MV l D cl_s (ty_M k) (w_M q k) y_M_reckon (k_M_reckon :: tb_l) rm_M_reckon [.ref (q 0), .int (nI f)] τ (fun u => rm_r a R u ∧ (∀ v, v < 100 → m_cnt u v = nI (sp_cnt a f v)) ∧ m_man u = nI (sp_many a) ∧ m_thr u = m_thr τ) := by
  have hn := hw.1
  have hv4 := hw.2.1
  have h0 : ∀ v, bx_b (a_left a 0 ∧ a_has a 0 f v) = false := fun v => bx_neg.mpr (fun h => by have := (hw.2.2.2.1 0 h.1.1).1; omega)
  obtain ⟨hp1, hp2, ρ, hρ⟩ := hw.2.2.2.2 f
  refine fx_enterV (by decide +kernel) [some (.ref (q 0)), some (.int (nI f)), none, none, none] rfl (Nat.le_of_ble_eq_true rfl) (Nat.le_of_ble_eq_true rfl) (fun X C hR => ?_)
  refine jr_aload_0 C d_M_reckon_0 ?_
  refine qM_M_sort C (cM_sort l D q k τ a R hw hm) rfl ⟨Nat.le_of_ble_eq_true rfl, Nat.le_of_ble_eq_true rfl⟩ (Nat.le_of_ble_eq_true rfl) d_M_reckon_1 (fun u hu => ?_)
  obtain ⟨A, O, L, m, rfl, hL, hmn⟩ := hu
  refine jr_iconst (v := nI 0) C d_M_reckon_4 (by decide) ?_
  refine jr_istore_2 C d_M_reckon_5 rfl ?_
  generalize eS : ms_man (ms_lft (ms_one (ms_any τ A) O) L) m = σ2
  have hm2 : rm_r a R σ2 := by rw [← eS]; exact hm
  have hlft : ∀ r, 1 ≤ r → r ≤ a_n a → m_lft σ2 r = b01 (bx_b (a_left a r)) := by rw [← eS]; exact hL
  have hman : m_man σ2 = nI (sp_many a) := by rw [← eS]; exact hmn
  have hthr : m_thr σ2 = m_thr τ := by rw [← eS]
  obtain ⟨m1, m2, m3, m4, m5, m6, m7⟩ := id hm2
  have LR := lp_up (P := fun r => 1 ≤ r → ∀ (K M : Nat → Int32) (mk : Nat → Nat) (z3 z4 : Option Value), (∀ v, v < 100 → K v = nI (ct_n (fun s => bx_b (a_left a s ∧ a_has a s f v)) r)) → (∀ v, v < 100 → M v = nI (mk v) ∧ mk v < r) → fx_J X (w_M q k (ms_mrk (ms_cnt σ2 K) M)) 34 [some (.ref (q 0)), some (.int (nI f)), some (.int (nI r)), z3, z4] []) (a_n a + 1) (fun r hr ih hr1 K M mk z3 z4 hC hM => ?_)
  · have LZ := lp_up (P := fun i => ∀ K M : Nat → Int32, (∀ s, s < i → K s = nI 0) → (∀ s, s < i → M s = nI 0) → fx_J X (w_M q k (ms_mrk (ms_cnt σ2 K) M)) 6 [some (.ref (q 0)), some (.int (nI f)), some (.int (nI i)), none, none] []) 100 (fun i hi ih K M hC hM => ?_)
    · exact LZ 0 (by omega) (m_cnt σ2) (m_mrk σ2) (fun s hs => by omega) (fun s hs => by omega)
    · refine jr_iload_2 C d_M_reckon_6 ?_
      refine jr_bipush (v := nI 100) C d_M_reckon_7 (by decide) ?_
      refine jr_N_ge (tgt := 32) C d_M_reckon_9 (by decide) (by omega) (by omega) (fun h => ?_) (fun h => ?_)
      · refine jr_iconst (v := nI 1) C d_M_reckon_32 (by decide) ?_
        refine jr_istore_2 C d_M_reckon_33 rfl ?_
        refine LR 1 (by omega) (Nat.le_refl 1) K M (fun _ => 0) _ _ (fun v hv => ?_) (fun v hv => ⟨hM v (by omega), by omega⟩)
        rw [show ct_n (fun s => bx_b (a_left a s ∧ a_has a s f v)) 1 = 0 from ct_sf (h0 v)]
        exact hC v (by omega)
      · refine jr_aload_0 C d_M_reckon_12 ?_
        refine gM_counts C d_M_reckon_13 ?_
        refine jr_iload_2 C d_M_reckon_16 ?_
        refine jr_iconst (v := nI 0) C d_M_reckon_17 (by decide) ?_
        refine sM_counts C (by omega) d_M_reckon_18 ?_
        refine jr_aload_0 C d_M_reckon_19 ?_
        refine gM_marks C d_M_reckon_20 ?_
        refine jr_iload_2 C d_M_reckon_23 ?_
        refine jr_iconst (v := nI 0) C d_M_reckon_24 (by decide) ?_
        refine sM_marks C (by omega) d_M_reckon_25 ?_
        refine jr_incN_2 C d_M_reckon_26 rfl ?_
        refine jr_goto (tgt := 6) C d_M_reckon_29 (by decide) ?_
        refine ih h (upd K i (nI 0)) (upd M i (nI 0)) (fun s hs => ?_) (fun s hs => ?_)
        · by_cases e : s = i
          · rw [e, pk_us]
          · rw [pk_un e]; exact hC s (by omega)
        · by_cases e : s = i
          · rw [e, pk_us]
          · rw [pk_un e]; exact hM s (by omega)
  · refine jr_iload_2 C d_M_reckon_34 ?_
    refine jr_aload_0 C d_M_reckon_35 ?_
    refine gM_records C d_M_reckon_36 ?_
    refine jr_eqi m1 ?_
    refine jr_N_gt (tgt := 168) C d_M_reckon_39 (by decide) (by omega) (by omega) (fun h => ?_) (fun h => ?_)
    · exact hR _ _ _ d_M_reckon_168 ⟨hm2, fun v hv => by
        show K v = _
        rw [hC v hv, show r = a_n a + 1 by omega]
        exact congrArg nI (ct_ext (by omega) (fun i h1 h2 => bx_neg.mpr (fun g => by have := (hw.2.2.2.1 i g.1.1).2; omega))).symm, hman, hthr⟩
    · have hr2 : r ≤ a_n a := h
      refine jr_iconst (v := nI 0) C d_M_reckon_42 (by decide) ?_
      refine jr_istore_3 C d_M_reckon_43 rfl ?_
      have LK := lp_up (P := fun i => ∀ (C2 M2 : Nat → Int32) (z4 : Option Value), (i = 0 ∨ a_left a r) → (∀ v, v < 100 → C2 v = nI (ct_n (fun s => bx_b (a_left a s ∧ a_has a s f v)) r + if bx_b (∃ j, j < i ∧ (R j).1 = r ∧ (R j).2.1 = f ∧ ab_o (a_par a f) (R j).2.2 v) = true then 1 else 0)) → (∀ v, v < 100 → M2 v = nI (if bx_b (∃ j, j < i ∧ (R j).1 = r ∧ (R j).2.1 = f ∧ ab_o (a_par a f) (R j).2.2 v) = true then r else mk v)) → fx_J X (w_M q k (ms_mrk (ms_cnt σ2 C2) M2)) 44 [some (.ref (q 0)), some (.int (nI f)), some (.int (nI r)), some (.int (nI i)), z4] []) (a_v a) (fun i hi ih2 C2 M2 z4 hil hC2 hM2 => ?_)
      · refine LK 0 (by omega) K M _ (Or.inl rfl) (fun v hv => ?_) (fun v hv => ?_)
        · rw [bx_neg.mpr (fun ⟨j, g, _⟩ => by omega)]
          exact hC v hv
        · rw [bx_neg.mpr (fun ⟨j, g, _⟩ => by omega)]
          exact (hM v hv).1
      · have out : (∀ v, v < 100 → ((∃ j, j < i ∧ (R j).1 = r ∧ (R j).2.1 = f ∧ ab_o (a_par a f) (R j).2.2 v) ↔ (a_left a r ∧ a_has a r f v))) → fx_J X (w_M q k (ms_mrk (ms_cnt σ2 C2) M2)) 162 [some (.ref (q 0)), some (.int (nI f)), some (.int (nI r)), some (.int (nI i)), z4] [] := by
          intro hS
          refine jr_incN_2 C d_M_reckon_162 rfl ?_
          refine jr_goto (tgt := 34) C d_M_reckon_165 (by decide) ?_
          refine ih (by omega) (by omega) C2 M2 (fun v => if bx_b (∃ j, j < i ∧ (R j).1 = r ∧ (R j).2.1 = f ∧ ab_o (a_par a f) (R j).2.2 v) = true then r else mk v) _ _ (fun v hv => ?_) (fun v hv => ⟨hM2 v hv, ?_⟩)
          · rw [hC2 v hv, ct_succ, bx_congr (hS v hv)]
          · have := (hM v hv).2
            split <;> omega
        refine jr_iload_3 C d_M_reckon_44 ?_
        refine jr_aload_0 C d_M_reckon_45 ?_
        refine gM_values C d_M_reckon_46 ?_
        refine jr_eqi m2 ?_
        refine jr_N_ge (tgt := 162) C d_M_reckon_49 (by decide) (by omega) (by omega) (fun h2 => ?_) (fun h2 => ?_)
        · refine out (fun v hv => ?_)
          constructor
          · rintro ⟨j, g1, g2, g3, g4⟩
            rcases hil with e | e
            · omega
            · exact ⟨e, (pm_hv hm2 r f v).mpr ⟨j, by omega, g2, g3, g4⟩⟩
          · rintro ⟨-, g⟩
            obtain ⟨j, g1, g2⟩ := (pm_hv hm2 r f v).mp g
            exact ⟨j, by omega, g2⟩
        · refine jr_aload_0 C d_M_reckon_52 ?_
          refine gM_left C d_M_reckon_53 ?_
          refine jr_iload_2 C d_M_reckon_56 ?_
          refine aM_left C (by omega) d_M_reckon_57 ?_
          refine jr_eqi (hlft r hr1 hr2) ?_
          refine jr_if_eq (tgt := 162) C d_M_reckon_58 (by decide) (fun h3 => ?_) (fun h3 => ?_)
          · rw [b01_eq, bx_neg] at h3
            refine out (fun v hv => ⟨fun ⟨j, g1, _⟩ => ?_, fun g => absurd g.1 h3⟩)
            rcases hil with e | e
            · omega
            · exact absurd e h3
          · rw [b01_ne, bx_iff] at h3
            obtain ⟨r1, r2, r3, r4, r5, r6, r7⟩ := m3 i h2
            have next : ∀ (C3 M3 : Nat → Int32) (z : Option Value), (∀ v, v < 100 → C3 v = nI (ct_n (fun s => bx_b (a_left a s ∧ a_has a s f v)) r + if bx_b (∃ j, j < i + 1 ∧ (R j).1 = r ∧ (R j).2.1 = f ∧ ab_o (a_par a f) (R j).2.2 v) = true then 1 else 0)) → (∀ v, v < 100 → M3 v = nI (if bx_b (∃ j, j < i + 1 ∧ (R j).1 = r ∧ (R j).2.1 = f ∧ ab_o (a_par a f) (R j).2.2 v) = true then r else mk v)) → fx_J X (w_M q k (ms_mrk (ms_cnt σ2 C3) M3)) 156 [some (.ref (q 0)), some (.int (nI f)), some (.int (nI r)), some (.int (nI i)), z] [] := by
              intro C3 M3 z g1 g2
              refine jr_incN_3 C d_M_reckon_156 rfl ?_
              refine jr_goto (tgt := 44) C d_M_reckon_159 (by decide) ?_
              exact ih2 h2 C3 M3 z (Or.inr h3) g1 g2
            have skip : ¬ ((R i).1 = r ∧ (R i).2.1 = f) → fx_J X (w_M q k (ms_mrk (ms_cnt σ2 C2) M2)) 100 [some (.ref (q 0)), some (.int (nI f)), some (.int (nI r)), some (.int (nI i)), z4] [] := by
              intro hne
              have eS : ∀ v, bx_b (∃ j, j < i + 1 ∧ (R j).1 = r ∧ (R j).2.1 = f ∧ ab_o (a_par a f) (R j).2.2 v) = bx_b (∃ j, j < i ∧ (R j).1 = r ∧ (R j).2.1 = f ∧ ab_o (a_par a f) (R j).2.2 v) := fun v => bx_congr ⟨fun ⟨j, g1, g2, g3, g4⟩ => by
                by_cases e : j = i
                · rw [e] at g2 g3
                  exact absurd ⟨g2, g3⟩ hne
                · exact ⟨j, by omega, g2, g3, g4⟩, fun ⟨j, g1, g⟩ => ⟨j, by omega, g⟩⟩
              refine jr_iconst (v := -1) C d_M_reckon_100 (by decide) ?_
              refine jr_istore_4 C d_M_reckon_101 rfl ?_
              refine jr_iload_4 C d_M_reckon_103 ?_
              refine jr_iconst (v := -1) C d_M_reckon_105 (by decide) ?_
              refine jr_icmp_eq (tgt := 156) C d_M_reckon_106 (by decide) (fun h7 => ?_) (fun h7 => ?_)
              · exact next C2 M2 _ (fun v hv => by rw [eS]; exact hC2 v hv) (fun v hv => by rw [eS]; exact hM2 v hv)
              · exact absurd rfl h7
            refine jr_aload_0 C d_M_reckon_61 ?_
            refine gM_rows C d_M_reckon_62 ?_
            refine jr_iconst (v := nI 3) C d_M_reckon_65 (by decide) ?_
            refine jr_iload_3 C d_M_reckon_66 ?_
            refine jr_imulN C d_M_reckon_67 ?_
            refine aM_rows C (by omega) d_M_reckon_68 ?_
            refine jr_eqi r5 ?_
            refine jr_iload_2 C d_M_reckon_69 ?_
            refine jr_N_ne (tgt := 100) C d_M_reckon_70 (by decide) (by omega) (by omega) (fun h4 => ?_) (fun h4 => ?_)
            · exact skip (fun g => h4 g.1)
            · refine jr_aload_0 C d_M_reckon_73 ?_
              refine gM_rows C d_M_reckon_74 ?_
              refine jr_iconst (v := nI 3) C d_M_reckon_77 (by decide) ?_
              refine jr_iload_3 C d_M_reckon_78 ?_
              refine jr_imulN C d_M_reckon_79 ?_
              refine jr_iconst (v := nI 1) C d_M_reckon_80 (by decide) ?_
              refine jr_iaddN C d_M_reckon_81 ?_
              refine aM_rows C (by omega) d_M_reckon_82 ?_
              refine jr_eqi r6 ?_
              refine jr_iload_1 C d_M_reckon_83 ?_
              refine jr_N_ne (tgt := 100) C d_M_reckon_84 (by decide) (by omega) (by omega) (fun h5 => ?_) (fun h5 => ?_)
              · exact skip (fun g => h5 g.2)
              · refine jr_aload_0 C d_M_reckon_87 ?_
                refine gM_rows C d_M_reckon_88 ?_
                refine jr_iconst (v := nI 3) C d_M_reckon_91 (by decide) ?_
                refine jr_iload_3 C d_M_reckon_92 ?_
                refine jr_imulN C d_M_reckon_93 ?_
                refine jr_iconst (v := nI 2) C d_M_reckon_94 (by decide) ?_
                refine jr_iaddN C d_M_reckon_95 ?_
                refine aM_rows C (by omega) d_M_reckon_96 ?_
                refine jr_eqi r7 ?_
                refine jr_goto (tgt := 101) C d_M_reckon_97 (by decide) ?_
                refine jr_istore_4 C d_M_reckon_101 rfl ?_
                have LW := lp_ms (P := fun w => ∀ (C3 M3 : Nat → Int32) (Mk : Nat → Prop), (∀ v, v < 100 → C3 v = nI (ct_n (fun s => bx_b (a_left a s ∧ a_has a s f v)) r + if bx_b (Mk v) = true then 1 else 0)) → (∀ v, v < 100 → M3 v = nI (if bx_b (Mk v) = true then r else mk v)) → (∀ v, v < 100 → Mk v → a_par a f v < 100 → Mk (a_par a f v) ∨ a_par a f v = w) → (∀ v, v < 100 → ((Mk v ∨ ab_o (a_par a f) w v) ↔ ∃ j, j < i + 1 ∧ (R j).1 = r ∧ (R j).2.1 = f ∧ ab_o (a_par a f) (R j).2.2 v)) → fx_J X (w_M q k (ms_mrk (ms_cnt σ2 C3) M3)) 103 [some (.ref (q 0)), some (.int (nI f)), some (.int (nI r)), some (.int (nI i)), some (.int (en_p w))] []) (fun w => if w < 100 then ρ w + 1 else 0) (fun w ihw C3 M3 Mk g1 g2 g3 g4 => ?_)
                · have := LW (R i).2.2 C2 M2 (fun v => ∃ j, j < i ∧ (R j).1 = r ∧ (R j).2.1 = f ∧ ab_o (a_par a f) (R j).2.2 v) hC2 hM2 (fun v hv ⟨j, k1, k2, k3, k4⟩ _ => Or.inl ⟨j, k1, k2, k3, ab_tr k4 (ab_up (ab_rf _ _))⟩) (fun v hv => by
                    constructor
                    · rintro (⟨j, k1, k2⟩ | k)
                      · exact ⟨j, by omega, k2⟩
                      · exact ⟨i, by omega, h4, h5, k⟩
                    · rintro ⟨j, k1, k2, k3, k4⟩
                      by_cases e : j = i
                      · rw [e] at k4
                        exact Or.inr k4
                      · exact Or.inl ⟨j, by omega, k2, k3, k4⟩)
                  rw [en_in r4] at this
                  exact this
                · have done : (∀ v, v < 100 → ab_o (a_par a f) w v → Mk v) → fx_J X (w_M q k (ms_mrk (ms_cnt σ2 C3) M3)) 156 [some (.ref (q 0)), some (.int (nI f)), some (.int (nI r)), some (.int (nI i)), some (.int (en_p w))] [] := by
                    intro hd
                    have eM : ∀ v, v < 100 → bx_b (∃ j, j < i + 1 ∧ (R j).1 = r ∧ (R j).2.1 = f ∧ ab_o (a_par a f) (R j).2.2 v) = bx_b (Mk v) := fun v hv => bx_congr ((g4 v hv).symm.trans ⟨fun k => k.elim id (hd v hv), Or.inl⟩)
                    exact next C3 M3 _ (fun v hv => by rw [eM v hv]; exact g1 v hv) (fun v hv => by rw [eM v hv]; exact g2 v hv)
                  refine jr_iload_4 C d_M_reckon_103 ?_
                  refine jr_iconst (v := -1) C d_M_reckon_105 (by decide) ?_
                  refine jr_icmp_eq (tgt := 156) C d_M_reckon_106 (by decide) (fun h6 => ?_) (fun h6 => ?_)
                  · have hw100 := en_m1.mp h6
                    exact done (fun v hv k => absurd k (ab_out hp2 hw100 hv))
                  · have hw100 : w < 100 := by
                      rcases Nat.lt_or_ge w 100 with g | g
                      · exact g
                      · exact absurd (en_no g) h6
                    have hmk := (hM w hw100).2
                    by_cases hMw : Mk w
                    · have ew := g2 w hw100
                      rw [bx_iff.mpr hMw, if_pos rfl] at ew
                      rw [en_in hw100]
                      refine jr_aload_0 C d_M_reckon_109 ?_
                      refine gM_marks C d_M_reckon_110 ?_
                      refine jr_iload_4 C d_M_reckon_113 ?_
                      refine aM_marks C (by omega) d_M_reckon_115 ?_
                      refine jr_eqi ew ?_
                      refine jr_iload_2 C d_M_reckon_116 ?_
                      refine jr_N_eq (tgt := 156) C d_M_reckon_117 (by decide) (by omega) (by omega) (fun h7 => ?_) (fun h7 => ?_)
                      · rw [← en_in hw100]
                        refine done (fun v hv k => ?_)
                        obtain ⟨n, k⟩ := k
                        refine cl_up hp2 (Mk := Mk) (fun v hv k1 k2 => ?_) n w v hw100 hMw hv k
                        rcases g3 v hv k1 k2 with k3 | k3
                        · exact k3
                        · rw [k3]; exact hMw
                      · exact absurd rfl h7
                    · have ew := g2 w hw100
                      rw [bx_neg.mpr hMw, if_neg (by decide)] at ew
                      have ec := g1 w hw100
                      rw [bx_neg.mpr hMw, if_neg (by decide)] at ec
                      have hb := ct_le (fun s => bx_b (a_left a s ∧ a_has a s f w)) r
                      rw [en_in hw100]
                      refine jr_aload_0 C d_M_reckon_109 ?_
                      refine gM_marks C d_M_reckon_110 ?_
                      refine jr_iload_4 C d_M_reckon_113 ?_
                      refine aM_marks C (by omega) d_M_reckon_115 ?_
                      refine jr_eqi ew ?_
                      refine jr_iload_2 C d_M_reckon_116 ?_
                      refine jr_N_eq (tgt := 156) C d_M_reckon_117 (by decide) (by omega) (by omega) (fun h7 => ?_) (fun h7 => ?_)
                      · omega
                      · refine jr_aload_0 C d_M_reckon_120 ?_
                        refine gM_marks C d_M_reckon_121 ?_
                        refine jr_iload_4 C d_M_reckon_124 ?_
                        refine jr_iload_2 C d_M_reckon_126 ?_
                        refine sM_marks C (by omega) d_M_reckon_127 ?_
                        refine jr_aload_0 C d_M_reckon_128 ?_
                        refine gM_counts C d_M_reckon_129 ?_
                        refine jr_iload_4 C d_M_reckon_132 ?_
                        refine jr_dup2_11 C d_M_reckon_134 rfl rfl ?_
                        refine aM_counts C (by omega) d_M_reckon_135 ?_
                        refine jr_eqi ec ?_
                        refine jr_iconst (v := nI 1) C d_M_reckon_136 (by decide) ?_
                        refine jr_iaddN C d_M_reckon_137 ?_
                        refine sM_counts C (by omega) d_M_reckon_138 ?_
                        refine jr_aload_0 C d_M_reckon_139 ?_
                        refine gM_broader C d_M_reckon_140 ?_
                        refine jr_bipush (v := nI 100) C d_M_reckon_143 (by decide) ?_
                        refine jr_iload_1 C d_M_reckon_145 ?_
                        refine jr_imulN C d_M_reckon_146 ?_
                        refine jr_iload_4 C d_M_reckon_147 ?_
                        refine jr_iaddN C d_M_reckon_149 ?_
                        refine aM_broader C (by omega) d_M_reckon_150 ?_
                        refine jr_eqi (m5 f w hf hw100) ?_
                        refine jr_istore_4 C d_M_reckon_151 rfl ?_
                        refine jr_goto (tgt := 103) C d_M_reckon_153 (by decide) ?_
                        refine ihw (a_par a f w) ?_ (upd C3 w (nI (ct_n (fun s => bx_b (a_left a s ∧ a_has a s f w)) r + 0 + 1))) (upd M3 w (nI r)) (fun v => Mk v ∨ v = w) (fun v hv => ?_) (fun v hv => ?_) (fun v hv k1 k2 => ?_) (fun v hv => ?_)
                        · try dsimp only
                          rw [if_pos hw100]
                          split
                          · next g => have := hρ w hw100 g; omega
                          · omega
                        · by_cases e : v = w
                          · subst e
                            rw [pk_us, bx_iff.mpr (Or.inr rfl), if_pos rfl]
                          · rw [pk_un e, g1 v hv, bx_congr (p := Mk v ∨ v = w) (q := Mk v) ⟨fun k => k.elim id (fun k => absurd k e), Or.inl⟩]
                        · by_cases e : v = w
                          · subst e
                            rw [pk_us, bx_iff.mpr (Or.inr rfl), if_pos rfl]
                          · rw [pk_un e, g2 v hv, bx_congr (p := Mk v ∨ v = w) (q := Mk v) ⟨fun k => k.elim id (fun k => absurd k e), Or.inl⟩]
                        · rcases k1 with k1 | k1
                          · rcases g3 v hv k1 k2 with k3 | k3
                            · exact Or.inl (Or.inl k3)
                            · exact Or.inl (Or.inr k3)
                          · rw [k1]; exact Or.inr rfl
                        · rw [← g4 v hv]
                          constructor
                          · rintro ((k1 | k1) | k1)
                            · exact Or.inl k1
                            · rw [k1]; exact Or.inr (ab_rf _ _)
                            · exact Or.inr (ab_up k1)
                          · rintro (k1 | k1)
                            · exact Or.inl (Or.inl k1)
                            · rcases ab_cs.mp k1 with k2 | k2
                              · exact Or.inl (Or.inr k2.symm)
                              · exact Or.inr k2
end RM
end
section
theorem rk_neg {c : Nat → Nat} {i : Int32} (h : i < 0) : rk_res c i (-1) := Or.inr ⟨rfl, fun v hv h0 e => by
  rw [← e] at h
  exact nI_pos (by have := rk_le c v; omega) h⟩
section PM3
variable (l : Launch) (D : va_G) (q : Nat → Nat) (k : Nat → ClassId) (τ : sm_T) (a : ab_T) (R : Nat → Nat × Nat × Nat)
theorem cM_count (hw : a_wf a) (hm : rm_r a R τ) (y z : Int32) : fx_MI l D cl_s (ty_M k) (w_M q k) y_M_count (k_M_count :: tb_l) rm_M_count [.ref (q 0), .int y, .int z] τ (fun r u => r = sp_count a y z ∧ rm_r a R u) := by
  refine fx_enterI (by decide +kernel) [some (.ref (q 0)), some (.int y), some (.int z)] rfl (Nat.le_of_ble_eq_true rfl) (Nat.le_of_ble_eq_true rfl) (fun X C hR => ?_)
  unfold sp_count at hR
  refine jr_aload_0 C d_M_count_0 ?_
  refine jr_iconst (v := nI 0) C d_M_count_1 (by decide) ?_
  refine pM_thrown C d_M_count_2 ?_
  refine jr_iload_1 C d_M_count_5 ?_
  refine jr_iload_2 C d_M_count_6 ?_
  refine qM_M_isValue C (cM_isValue l D (ty_M k) (w_M q k) (ms_thr τ (nI 0)) y z) ⟨Nat.le_of_ble_eq_true rfl, Nat.le_of_ble_eq_true rfl⟩ (Nat.le_of_ble_eq_true rfl) d_M_count_7 (fx_p (fun z1 h1 => ?_))
  rcases h1 with ⟨rfl, ⟨f, hf, rfl⟩, v, hv, rfl⟩ | ⟨rfl, h1⟩
  · rw [ix_in hf (by omega), ix_in hv (by omega)] at hR
    refine jr_if_ne (tgt := 15) C d_M_count_10 (by decide) (fun e1 => ?_) (fun e1 => ?_)
    · refine jr_aload_0 C d_M_count_15 ?_
      refine jr_iload_1 C d_M_count_16 ?_
      refine qM_M_reckon C (cM_reckon l D q k (ms_thr τ (nI 0)) a R hw hm f hf) rfl ⟨Nat.le_of_ble_eq_true rfl, Nat.le_of_ble_eq_true rfl⟩ (Nat.le_of_ble_eq_true rfl) d_M_count_17 (fun u hu => ?_)
      refine jr_aload_0 C d_M_count_20 ?_
      refine gM_counts C d_M_count_21 ?_
      refine jr_iload_2 C d_M_count_24 ?_
      refine aM_counts C (by omega) d_M_count_25 ?_
      refine jr_eqi (hu.2.1 v hv) ?_
      exact hR _ _ _ _ d_M_count_26 rfl ⟨rfl, hu.1⟩
    · exact absurd e1 (by decide)
  · refine jr_if_ne (tgt := 15) C d_M_count_10 (by decide) (fun e1 => ?_) (fun e1 => ?_)
    · exact absurd nI_0 e1
    · refine jr_iconst (v := -1) C d_M_count_13 (by decide) ?_
      rcases no_ix h1 with h | ⟨⟨f, h⟩, h2⟩
      · rw [h] at hR
        exact hR _ _ _ _ d_M_count_14 rfl ⟨rfl, hm⟩
      · rw [h, h2] at hR
        exact hR _ _ _ _ d_M_count_14 rfl ⟨rfl, hm⟩
theorem cM_ranked (c : Nat → Nat) (fl : Nat → Bool) (f : Nat) (hf : f < 6) (ab i : Int32) (hc : ∀ v, v < 100 → m_cnt τ v = nI (c v) ∧ c v ≤ 60) (hfl : ∀ v, v < 100 → (fl v = true ↔ (ab = -2 ∨ m_bro τ (100 * f + v) = ab))) : fx_MI l D cl_s (ty_M k) (w_M q k) y_M_ranked (k_M_ranked :: tb_l) rm_M_ranked [.ref (q 0), .int (nI f), .int ab, .int i] τ (fun r u => u = τ ∧ rk_res (fun v => if fl v = true then c v else 0) i r) := by
  refine fx_enterI (by decide +kernel) [some (.ref (q 0)), some (.int (nI f)), some (.int ab), some (.int i), none, none, none] rfl (Nat.le_of_ble_eq_true rfl) (Nat.le_of_ble_eq_true rfl) (fun X C hR => ?_)
  refine jr_iconst (v := nI 0) C d_M_ranked_0 (by decide) ?_
  refine jr_istore_4 C d_M_ranked_1 rfl ?_
  have LV := lp_up (P := fun v => ∀ z5 z6 : Option Value, (∀ w, w < v → 0 < (if fl w = true then c w else 0) → ¬ nI (rk_b (fun v => if fl v = true then c v else 0) w) = i) → fx_J X (w_M q k τ) 3 [some (.ref (q 0)), some (.int (nI f)), some (.int ab), some (.int i), some (.int (nI v)), z5, z6] []) 100 (fun v hv ih z5 z6 hno => ?_)
  · exact LV 0 (by omega) _ _ (fun w hw => by omega)
  · refine jr_iload_4 C d_M_ranked_3 ?_
    refine jr_bipush (v := nI 100) C d_M_ranked_5 (by decide) ?_
    refine jr_N_ge (tgt := 149) C d_M_ranked_7 (by decide) (by omega) (by omega) (fun h => ?_) (fun h => ?_)
    · refine jr_iconst (v := -1) C d_M_ranked_149 (by decide) ?_
      exact hR _ _ _ _ d_M_ranked_150 rfl ⟨rfl, Or.inr ⟨rfl, fun w hw h0 => hno w (by omega) h0⟩⟩
    · obtain ⟨c1, c2⟩ := hc v h
      have next : ∀ z5 z6 : Option Value, (0 < (if fl v = true then c v else 0) → ¬ nI (rk_b (fun v => if fl v = true then c v else 0) v) = i) → fx_J X (w_M q k τ) 143 [some (.ref (q 0)), some (.int (nI f)), some (.int ab), some (.int i), some (.int (nI v)), z5, z6] [] := by
        intro z5 z6 hn
        refine jr_incN_4 C d_M_ranked_143 rfl ?_
        refine jr_goto (tgt := 3) C d_M_ranked_146 (by decide) ?_
        refine ih h _ _ (fun w hw h0 => ?_)
        by_cases e : w = v
        · rw [e] at h0 ⊢; exact hn h0
        · exact hno w (by omega) h0
      refine jr_aload_0 C d_M_ranked_10 ?_
      refine gM_counts C d_M_ranked_11 ?_
      refine jr_iload_4 C d_M_ranked_14 ?_
      refine aM_counts C (by omega) d_M_ranked_16 ?_
      refine jr_eqi c1 ?_
      refine jr_if_le (tgt := 143) C d_M_ranked_17 (by decide) (fun h2 => ?_) (fun h2 => ?_)
      · have e0 : c v = 0 := by
          rcases Nat.eq_zero_or_pos (c v) with e | e
          · exact e
          · exact absurd h2 (nI_nle e (by omega))
        refine next _ _ (fun g => ?_)
        rw [e0] at g
        split at g <;> omega
      · have e0 : 0 < c v := by
          rcases Nat.eq_zero_or_pos (c v) with e | e
          · rw [e] at h2
            exact absurd (by rw [nI_0]; decide) h2
          · exact e
        have yes : fl v = true → fx_J X (w_M q k τ) 42 [some (.ref (q 0)), some (.int (nI f)), some (.int ab), some (.int i), some (.int (nI v)), z5, z6] [] := by
          intro hfv
          have eb : rk_b (fun v => if fl v = true then c v else 0) v = ct_n (fun w => fl w && (decide (c v < c w) || (decide (c w = c v) && decide (w < v)))) 100 := by
            refine ct_congr (fun w hw => ?_)
            show (decide ((if fl v = true then c v else 0) < (if fl w = true then c w else 0)) || (decide ((if fl w = true then c w else 0) = (if fl v = true then c v else 0)) && decide (w < v))) = _
            rw [if_pos hfv]
            cases hfw : fl w with
            | true => simp
            | false =>
              simp
              omega
          refine jr_iconst (v := nI 0) C d_M_ranked_42 (by decide) ?_
          refine jr_istore_5 C d_M_ranked_43 rfl ?_
          refine jr_iconst (v := nI 0) C d_M_ranked_45 (by decide) ?_
          refine jr_istore_6 C d_M_ranked_46 rfl ?_
          have LW := lp_up (P := fun w => fx_J X (w_M q k τ) 48 [some (.ref (q 0)), some (.int (nI f)), some (.int ab), some (.int i), some (.int (nI v)), some (.int (nI (ct_n (fun w => fl w && (decide (c v < c w) || (decide (c w = c v) && decide (w < v)))) w))), some (.int (nI w))] []) 100 (fun w hw ih2 => ?_)
          · exact LW 0 (by omega)
          · have hble := ct_le (fun w => fl w && (decide (c v < c w) || (decide (c w = c v) && decide (w < v)))) w
            refine jr_iload_6 C d_M_ranked_48 ?_
            refine jr_bipush (v := nI 100) C d_M_ranked_50 (by decide) ?_
            refine jr_N_ge (tgt := 134) C d_M_ranked_52 (by decide) (by omega) (by omega) (fun h3 => ?_) (fun h3 => ?_)
            · refine jr_iload_5 C d_M_ranked_134 ?_
              refine jr_iload_3 C d_M_ranked_136 ?_
              refine jr_icmp_ne (tgt := 143) C d_M_ranked_137 (by decide) (fun h4 => ?_) (fun h4 => ?_)
              · refine next _ _ (fun _ => ?_)
                rw [eb, ← show w = 100 by omega]
                exact h4
              · refine jr_iload_4 C d_M_ranked_140 ?_
                exact hR _ _ _ _ d_M_ranked_142 rfl ⟨rfl, Or.inl ⟨v, h, by show 0 < (if fl v = true then c v else 0); rw [if_pos hfv]; exact e0, by rw [eb, ← show w = 100 by omega]; exact h4, rfl⟩⟩
            · obtain ⟨d1, d2⟩ := hc w h3
              have go : ∀ b, ct_n (fun w => fl w && (decide (c v < c w) || (decide (c w = c v) && decide (w < v)))) w + b = ct_n (fun w => fl w && (decide (c v < c w) || (decide (c w = c v) && decide (w < v)))) (w + 1) → fx_J X (w_M q k τ) 125 [some (.ref (q 0)), some (.int (nI f)), some (.int ab), some (.int i), some (.int (nI v)), some (.int (nI (ct_n (fun w => fl w && (decide (c v < c w) || (decide (c w = c v) && decide (w < v)))) w))), some (.int (nI w))] [.int (nI b), .int (nI (ct_n (fun w => fl w && (decide (c v < c w) || (decide (c w = c v) && decide (w < v)))) w))] := by
                intro b hb
                refine jr_iaddN C d_M_ranked_125 ?_
                refine jr_istore_5 C d_M_ranked_126 rfl ?_
                refine jr_incN_6 C d_M_ranked_128 rfl ?_
                refine jr_goto (tgt := 48) C d_M_ranked_131 (by decide) ?_
                rw [hb]
                exact ih2 h3
              have no : (fl w && (decide (c v < c w) || (decide (c w = c v) && decide (w < v)))) = false → fx_J X (w_M q k τ) 124 [some (.ref (q 0)), some (.int (nI f)), some (.int ab), some (.int i), some (.int (nI v)), some (.int (nI (ct_n (fun w => fl w && (decide (c v < c w) || (decide (c w = c v) && decide (w < v)))) w))), some (.int (nI w))] [.int (nI (ct_n (fun w => fl w && (decide (c v < c w) || (decide (c w = c v) && decide (w < v)))) w))] := by
                intro hb
                refine jr_iconst (v := nI 0) C d_M_ranked_124 (by decide) ?_
                exact go 0 (ct_sf (p := fun w => fl w && (decide (c v < c w) || (decide (c w = c v) && decide (w < v)))) hb).symm
              have ys : (fl w && (decide (c v < c w) || (decide (c w = c v) && decide (w < v)))) = true → fx_J X (w_M q k τ) 120 [some (.ref (q 0)), some (.int (nI f)), some (.int ab), some (.int i), some (.int (nI v)), some (.int (nI (ct_n (fun w => fl w && (decide (c v < c w) || (decide (c w = c v) && decide (w < v)))) w))), some (.int (nI w))] [.int (nI (ct_n (fun w => fl w && (decide (c v < c w) || (decide (c w = c v) && decide (w < v)))) w))] := by
                intro hb
                refine jr_iconst (v := nI 1) C d_M_ranked_120 (by decide) ?_
                refine jr_goto (tgt := 125) C d_M_ranked_121 (by decide) ?_
                exact go 1 (ct_st (p := fun w => fl w && (decide (c v < c w) || (decide (c w = c v) && decide (w < v)))) hb).symm
              have cmp : fl w = true → fx_J X (w_M q k τ) 79 [some (.ref (q 0)), some (.int (nI f)), some (.int ab), some (.int i), some (.int (nI v)), some (.int (nI (ct_n (fun w => fl w && (decide (c v < c w) || (decide (c w = c v) && decide (w < v)))) w))), some (.int (nI w))] [.int (nI (ct_n (fun w => fl w && (decide (c v < c w) || (decide (c w = c v) && decide (w < v)))) w))] := by
                intro hfw
                refine jr_aload_0 C d_M_ranked_79 ?_
                refine gM_counts C d_M_ranked_80 ?_
                refine jr_iload_6 C d_M_ranked_83 ?_
                refine aM_counts C (by omega) d_M_ranked_85 ?_
                refine jr_eqi d1 ?_
                refine jr_aload_0 C d_M_ranked_86 ?_
                refine gM_counts C d_M_ranked_87 ?_
                refine jr_iload_4 C d_M_ranked_90 ?_
                refine aM_counts C (by omega) d_M_ranked_92 ?_
                refine jr_eqi c1 ?_
                refine jr_N_gt (tgt := 120) C d_M_ranked_93 (by decide) (by omega) (by omega) (fun h5 => ?_) (fun h5 => ?_)
                · exact ys (by rw [hfw]; simp [h5])
                · refine jr_aload_0 C d_M_ranked_96 ?_
                  refine gM_counts C d_M_ranked_97 ?_
                  refine jr_iload_6 C d_M_ranked_100 ?_
                  refine aM_counts C (by omega) d_M_ranked_102 ?_
                  refine jr_eqi d1 ?_
                  refine jr_aload_0 C d_M_ranked_103 ?_
                  refine gM_counts C d_M_ranked_104 ?_
                  refine jr_iload_4 C d_M_ranked_107 ?_
                  refine aM_counts C (by omega) d_M_ranked_109 ?_
                  refine jr_eqi c1 ?_
                  refine jr_N_ne (tgt := 124) C d_M_ranked_110 (by decide) (by omega) (by omega) (fun h6 => ?_) (fun h6 => ?_)
                  · exact no (by rw [hfw]; simp; omega)
                  · refine jr_iload_6 C d_M_ranked_113 ?_
                    refine jr_iload_4 C d_M_ranked_115 ?_
                    refine jr_N_ge (tgt := 124) C d_M_ranked_117 (by decide) (by omega) (by omega) (fun h7 => ?_) (fun h7 => ?_)
                    · exact no (by rw [hfw]; simp; omega)
                    · exact ys (by rw [hfw]; simp; omega)
              refine jr_iload_5 C d_M_ranked_55 ?_
              refine jr_iload_2 C d_M_ranked_57 ?_
              refine jr_bipush (v := -2) C d_M_ranked_58 (by decide) ?_
              refine jr_icmp_eq (tgt := 79) C d_M_ranked_60 (by decide) (fun h4 => ?_) (fun h4 => ?_)
              · exact cmp ((hfl w h3).mpr (Or.inl h4))
              · refine jr_aload_0 C d_M_ranked_63 ?_
                refine gM_broader C d_M_ranked_64 ?_
                refine jr_bipush (v := nI 100) C d_M_ranked_67 (by decide) ?_
                refine jr_iload_1 C d_M_ranked_69 ?_
                refine jr_imulN C d_M_ranked_70 ?_
                refine jr_iload_6 C d_M_ranked_71 ?_
                refine jr_iaddN C d_M_ranked_73 ?_
                refine aM_broader C (by omega) d_M_ranked_74 ?_
                refine jr_iload_2 C d_M_ranked_75 ?_
                refine jr_icmp_ne (tgt := 124) C d_M_ranked_76 (by decide) (fun h5 => ?_) (fun h5 => ?_)
                · exact no (by
                    rw [ts_nt (x := fl w) (fun g => ?_)]
                    · rfl
                    · rcases (hfl w h3).mp g with e | e
                      · exact h4 e
                      · exact h5 e)
                · exact cmp ((hfl w h3).mpr (Or.inr h5))
        refine jr_iload_2 C d_M_ranked_20 ?_
        refine jr_bipush (v := -2) C d_M_ranked_21 (by decide) ?_
        refine jr_icmp_eq (tgt := 42) C d_M_ranked_23 (by decide) (fun h3 => ?_) (fun h3 => ?_)
        · exact yes ((hfl v h).mpr (Or.inl h3))
        · refine jr_aload_0 C d_M_ranked_26 ?_
          refine gM_broader C d_M_ranked_27 ?_
          refine jr_bipush (v := nI 100) C d_M_ranked_30 (by decide) ?_
          refine jr_iload_1 C d_M_ranked_32 ?_
          refine jr_imulN C d_M_ranked_33 ?_
          refine jr_iload_4 C d_M_ranked_34 ?_
          refine jr_iaddN C d_M_ranked_36 ?_
          refine aM_broader C (by omega) d_M_ranked_37 ?_
          refine jr_iload_2 C d_M_ranked_38 ?_
          refine jr_icmp_ne (tgt := 143) C d_M_ranked_39 (by decide) (fun h4 => ?_) (fun h4 => ?_)
          · refine next _ _ (fun g => ?_)
            rw [if_neg (fun g => by
              rcases (hfl v h).mp g with e | e
              · exact h3 e
              · exact h4 e)] at g
            omega
          · exact yes ((hfl v h).mpr (Or.inr h4))
theorem cM_top (hw : a_wf a) (hm : rm_r a R τ) (y i : Int32) : fx_MI l D cl_s (ty_M k) (w_M q k) y_M_top (k_M_top :: tb_l) rm_M_top [.ref (q 0), .int y, .int i] τ (fun r u => sp_top a y i r ∧ rm_r a R u) := by
  refine fx_enterI (by decide +kernel) [some (.ref (q 0)), some (.int y), some (.int i)] rfl (Nat.le_of_ble_eq_true rfl) (Nat.le_of_ble_eq_true rfl) (fun X C hR => ?_)
  unfold sp_top at hR
  refine jr_aload_0 C d_M_top_0 ?_
  refine jr_iconst (v := nI 0) C d_M_top_1 (by decide) ?_
  refine pM_thrown C d_M_top_2 ?_
  refine jr_iload_1 C d_M_top_5 ?_
  refine qM_M_isFacet C (cM_isFacet l D (ty_M k) (w_M q k) (ms_thr τ (nI 0)) y) ⟨Nat.le_of_ble_eq_true rfl, Nat.le_of_ble_eq_true rfl⟩ (Nat.le_of_ble_eq_true rfl) d_M_top_6 (fx_p (fun z1 h1 => ?_))
  rcases h1 with ⟨rfl, f, hf, rfl⟩ | ⟨rfl, h1⟩
  · rw [ix_in hf (by omega)] at hR
    refine jr_if_eq (tgt := 16) C d_M_top_9 (by decide) (fun e1 => ?_) (fun e1 => ?_)
    · exact absurd e1 (by decide)
    · refine jr_iload_2 C d_M_top_12 ?_
      refine jr_if_ge (tgt := 18) C d_M_top_13 (by decide) (fun e2 => ?_) (fun e2 => ?_)
      · refine jr_aload_0 C d_M_top_18 ?_
        refine jr_iload_1 C d_M_top_19 ?_
        refine qM_M_reckon C (cM_reckon l D q k (ms_thr τ (nI 0)) a R hw hm f hf) rfl ⟨Nat.le_of_ble_eq_true rfl, Nat.le_of_ble_eq_true rfl⟩ (Nat.le_of_ble_eq_true rfl) d_M_top_20 (fun u hu => ?_)
        refine jr_aload_0 C d_M_top_23 ?_
        refine jr_iload_1 C d_M_top_24 ?_
        refine jr_bipush (v := -2) C d_M_top_25 (by decide) ?_
        refine jr_iload_2 C d_M_top_27 ?_
        refine qM_M_ranked C (cM_ranked l D q k u (sp_cnt a f) (fun _ => true) f hf (-2) i (fun v hv => ⟨hu.2.1 v hv, sp_le hw f v⟩) (fun v hv => ⟨fun _ => Or.inl rfl, fun _ => rfl⟩)) rfl ⟨Nat.le_of_ble_eq_true rfl, Nat.le_of_ble_eq_true rfl⟩ (Nat.le_of_ble_eq_true rfl) d_M_top_28 (fx_p (fun r hr => ?_))
        exact hR _ _ _ _ d_M_top_31 rfl ⟨rk_congr (fun v hv => if_pos rfl) hr, hu.1⟩
      · refine jr_iconst (v := -1) C d_M_top_16 (by decide) ?_
        exact hR _ _ _ _ d_M_top_17 rfl ⟨rk_neg (by
          rw [Int32.lt_iff_toInt_lt]
          rw [Int32.le_iff_toInt_le] at e2
          omega), hm⟩
  · rw [ix_no (by omega) h1] at hR
    refine jr_if_eq (tgt := 16) C d_M_top_9 (by decide) (fun e1 => ?_) (fun e1 => ?_)
    · refine jr_iconst (v := -1) C d_M_top_16 (by decide) ?_
      exact hR _ _ _ _ d_M_top_17 rfl ⟨rfl, hm⟩
    · exact absurd nI_0 e1
theorem cM_below (hw : a_wf a) (hm : rm_r a R τ) (y : Int32) (roots : Bool) (z i : Int32) : fx_MI l D cl_s (ty_M k) (w_M q k) y_M_below (k_M_below :: tb_l) rm_M_below [.ref (q 0), .int y, .int (b01 roots), .int z, .int i] τ (fun r u => sp_below a y roots z i r ∧ rm_r a R u) := by
  refine fx_enterI (by decide +kernel) [some (.ref (q 0)), some (.int y), some (.int (b01 roots)), some (.int z), some (.int i)] rfl (Nat.le_of_ble_eq_true rfl) (Nat.le_of_ble_eq_true rfl) (fun X C hR => ?_)
  unfold sp_below at hR
  refine jr_aload_0 C d_M_below_0 ?_
  refine jr_iconst (v := nI 0) C d_M_below_1 (by decide) ?_
  refine pM_thrown C d_M_below_2 ?_
  refine jr_iload_1 C d_M_below_5 ?_
  refine qM_M_isFacet C (cM_isFacet l D (ty_M k) (w_M q k) (ms_thr τ (nI 0)) y) ⟨Nat.le_of_ble_eq_true rfl, Nat.le_of_ble_eq_true rfl⟩ (Nat.le_of_ble_eq_true rfl) d_M_below_6 (fx_p (fun z1 h1 => ?_))
  rcases h1 with ⟨rfl, f, hf, rfl⟩ | ⟨rfl, h1⟩
  · rw [ix_in hf (by omega)] at hR
    refine jr_if_eq (tgt := 29) C d_M_below_9 (by decide) (fun e1 => ?_) (fun e1 => ?_)
    · exact absurd e1 (by decide)
    · refine jr_iload_4 C d_M_below_12 ?_
      refine jr_if_lt (tgt := 29) C d_M_below_14 (by decide) (fun e2 => ?_) (fun e2 => ?_)
      · refine jr_iconst (v := -1) C d_M_below_29 (by decide) ?_
        refine hR _ _ _ _ d_M_below_30 rfl ⟨?_, hm⟩
        dsimp only
        split
        · exact rk_neg e2
        · split
          · exact rk_neg e2
          · rfl
      · have fin : ∀ p, p ≤ 100 → (if roots = true then (-1 : Int32) else z) = en_p p → (∀ r u pc pl2, decode b_M_below pc = .ok (.ireturn, 1) → narrow .int (.int r) = .int r → rk_res (sp_flt a f p) i r ∧ rm_r a R u → fx_J X (w_M q k u) pc pl2 [.int r]) → fx_J X (w_M q k (ms_thr τ (nI 0))) 31 [some (.ref (q 0)), some (.int (nI f)), some (.int (b01 roots)), some (.int z), some (.int i)] [] := by
          intro p hp he hR
          refine jr_aload_0 C d_M_below_31 ?_
          refine jr_iload_1 C d_M_below_32 ?_
          refine qM_M_reckon C (cM_reckon l D q k (ms_thr τ (nI 0)) a R hw hm f hf) rfl ⟨Nat.le_of_ble_eq_true rfl, Nat.le_of_ble_eq_true rfl⟩ (Nat.le_of_ble_eq_true rfl) d_M_below_33 (fun u hu => ?_)
          have fin2 : fx_J X (w_M q k u) 47 [some (.ref (q 0)), some (.int (nI f)), some (.int (b01 roots)), some (.int z), some (.int i)] [.int (en_p p), .int (nI f), .ref (q 0)] := by
            refine jr_iload_4 C d_M_below_47 ?_
            refine qM_M_ranked C (cM_ranked l D q k u (sp_cnt a f) (fun v => decide (a_par a f v = p)) f hf (en_p p) i (fun v hv => ⟨hu.2.1 v hv, sp_le hw f v⟩) (fun v hv => ?_)) rfl ⟨Nat.le_of_ble_eq_true rfl, Nat.le_of_ble_eq_true rfl⟩ (Nat.le_of_ble_eq_true rfl) d_M_below_49 (fx_p (fun r hr => ?_))
            · rw [hu.1.2.2.2.2.1 f v hf hv, en_eq ((hw.2.2.2.2 f).1 v) hp, decide_eq_true_eq]
              constructor
              · exact Or.inr
              · rintro (e | e)
                · exfalso
                  rcases Nat.lt_or_ge p 100 with g | g
                  · rw [en_in g] at e
                    have h1 := nI_toInt (show p < 2 ^ 31 by omega)
                    rw [e] at h1
                    have h2 : (-2 : Int32).toInt = -2 := by decide
                    omega
                  · rw [en_no g] at e
                    exact absurd e (by decide)
                · exact e
            · exact hR _ _ _ _ d_M_below_52 rfl ⟨rk_congr (fun v hv => by simp [sp_flt]) hr, hu.1⟩
          refine jr_aload_0 C d_M_below_36 ?_
          refine jr_iload_1 C d_M_below_37 ?_
          refine jr_iload_2 C d_M_below_38 ?_
          refine jr_if_eq (tgt := 46) C d_M_below_39 (by decide) (fun e3 => ?_) (fun e3 => ?_)
          · refine jr_iload_3 C d_M_below_46 ?_
            rw [b01_eq] at e3
            rw [e3] at he
            rw [if_neg (by decide)] at he
            refine jr_eqi he ?_
            exact fin2
          · refine jr_iconst (v := -1) C d_M_below_42 (by decide) ?_
            refine jr_goto (tgt := 47) C d_M_below_43 (by decide) ?_
            rw [b01_ne] at e3
            rw [e3, if_pos rfl] at he
            refine jr_eqi he ?_
            exact fin2
        refine jr_iload_2 C d_M_below_17 ?_
        refine jr_if_ne (tgt := 31) C d_M_below_18 (by decide) (fun e3 => ?_) (fun e3 => ?_)
        · rw [b01_ne] at e3
          rw [e3] at hR
          exact fin 100 (by omega) (by rw [e3, if_pos rfl]; rfl) hR
        · rw [b01_eq] at e3
          rw [e3] at hR
          refine jr_iload_1 C d_M_below_21 ?_
          refine jr_iload_3 C d_M_below_22 ?_
          refine qM_M_isValue C (cM_isValue l D (ty_M k) (w_M q k) (ms_thr τ (nI 0)) (nI f) z) ⟨Nat.le_of_ble_eq_true rfl, Nat.le_of_ble_eq_true rfl⟩ (Nat.le_of_ble_eq_true rfl) d_M_below_23 (fx_p (fun z2 h2 => ?_))
          rcases h2 with ⟨rfl, -, p, hp, rfl⟩ | ⟨rfl, h2⟩
          · rw [ix_in hp (by omega)] at hR
            refine jr_if_ne (tgt := 31) C d_M_below_26 (by decide) (fun e4 => ?_) (fun e4 => ?_)
            · exact fin p (by omega) (by rw [e3, if_neg (by decide), en_in hp]) hR
            · exact absurd e4 (by decide)
          · rw [ix_no (by omega) (fun q => h2 ⟨⟨f, hf, rfl⟩, q⟩)] at hR
            refine jr_if_ne (tgt := 31) C d_M_below_26 (by decide) (fun e4 => ?_) (fun e4 => ?_)
            · exact absurd nI_0 e4
            · refine jr_iconst (v := -1) C d_M_below_29 (by decide) ?_
              exact hR _ _ _ _ d_M_below_30 rfl ⟨rfl, hm⟩
  · rw [ix_no (by omega) h1] at hR
    refine jr_if_eq (tgt := 29) C d_M_below_9 (by decide) (fun e1 => ?_) (fun e1 => ?_)
    · refine jr_iconst (v := -1) C d_M_below_29 (by decide) ?_
      exact hR _ _ _ _ d_M_below_30 rfl ⟨rfl, hm⟩
    · exact absurd nI_0 e1
end PM3
end
section
section PM4
variable (l : Launch) (D : va_G) (q : Nat → Nat) (k : Nat → ClassId) (τ : sm_T) (a : ab_T) (R : Nat → Nat × Nat × Nat)
theorem cM_band (hw : a_wf a) (hm : rm_r a R τ) (y lo hi : Int32) : fx_MI l D cl_s (ty_M k) (w_M q k) y_M_band (k_M_band :: tb_l) rm_M_band [.ref (q 0), .int y, .int lo, .int hi] τ (fun r u => r = sp_band a y lo hi ∧ rm_r a R u) := by
  have hn := hw.1
  have hv4 := hw.2.1
  refine fx_enterI (by decide +kernel) [some (.ref (q 0)), some (.int y), some (.int lo), some (.int hi), none, none, none, none] rfl (Nat.le_of_ble_eq_true rfl) (Nat.le_of_ble_eq_true rfl) (fun X C hR => ?_)
  unfold sp_band at hR
  refine jr_aload_0 C d_M_band_0 ?_
  refine jr_iconst (v := nI 0) C d_M_band_1 (by decide) ?_
  refine pM_thrown C d_M_band_2 ?_
  refine jr_iload_1 C d_M_band_5 ?_
  refine qM_M_isFacet C (cM_isFacet l D (ty_M k) (w_M q k) (ms_thr τ (nI 0)) y) ⟨Nat.le_of_ble_eq_true rfl, Nat.le_of_ble_eq_true rfl⟩ (Nat.le_of_ble_eq_true rfl) d_M_band_6 (fx_p (fun z1 h1 => ?_))
  rcases h1 with ⟨rfl, f, hf, rfl⟩ | ⟨rfl, h1⟩
  · rw [ix_in hf (by omega)] at hR
    refine jr_if_eq (tgt := 17) C d_M_band_9 (by decide) (fun e1 => ?_) (fun e1 => ?_)
    · exact absurd e1 (by decide)
    · refine jr_iload_3 C d_M_band_12 ?_
      refine jr_iload_2 C d_M_band_13 ?_
      refine jr_icmp_ge (tgt := 19) C d_M_band_14 (by decide) (fun e2 => ?_) (fun e2 => ?_)
      · have e3 : ¬ hi < lo := by
          rw [Int32.lt_iff_toInt_lt]
          rw [Int32.le_iff_toInt_le] at e2
          omega
        dsimp only at hR
        rw [if_neg e3] at hR
        refine jr_iconst (v := nI 0) C d_M_band_19 (by decide) ?_
        refine jr_istore_4 C d_M_band_20 rfl ?_
        refine jr_aload_0 C d_M_band_22 ?_
        refine qM_M_sort C (cM_sort l D q k (ms_thr τ (nI 0)) a R hw hm) rfl ⟨Nat.le_of_ble_eq_true rfl, Nat.le_of_ble_eq_true rfl⟩ (Nat.le_of_ble_eq_true rfl) d_M_band_23 (fun u hu => ?_)
        obtain ⟨A, O, L, m, rfl, hL, -⟩ := hu
        refine jr_iconst (v := nI 1) C d_M_band_26 (by decide) ?_
        refine jr_istore_5 C d_M_band_27 rfl ?_
        generalize eS : ms_man (ms_lft (ms_one (ms_any (ms_thr τ (nI 0)) A) O) L) m = σ2
        have hlft : ∀ r, 1 ≤ r → r ≤ a_n a → m_lft σ2 r = b01 (bx_b (a_left a r)) := by rw [← eS]; exact hL
        have hm2 : rm_r a R σ2 := by rw [← eS]; exact hm
        obtain ⟨m1, m2, m3, m4, m5, m6, m7⟩ := id hm2
        have h0 : bx_b (a_left a 0 ∧ ∃ v : Nat, v < 100 ∧ lo.toInt ≤ (v : Int) ∧ (v : Int) ≤ hi.toInt ∧ a_own a 0 f v = true) = false := bx_neg.mpr (fun h => by have := (hw.2.2.2.1 0 h.1.1).1; omega)
        have LR := lp_up (P := fun r => 1 ≤ r → ∀ z6 z7 : Option Value, fx_J X (w_M q k σ2) 29 [some (.ref (q 0)), some (.int (nI f)), some (.int lo), some (.int hi), some (.int (nI (ct_n (fun r => bx_b (a_left a r ∧ ∃ v : Nat, v < 100 ∧ lo.toInt ≤ (v : Int) ∧ (v : Int) ≤ hi.toInt ∧ a_own a r f v = true)) r))), some (.int (nI r)), z6, z7] []) (a_n a + 1) (fun r hr ih hr1 z6 z7 => ?_)
        · have := LR 1 (by omega) (Nat.le_refl 1) none none
          rw [show ct_n (fun r => bx_b (a_left a r ∧ ∃ v : Nat, v < 100 ∧ lo.toInt ≤ (v : Int) ∧ (v : Int) ≤ hi.toInt ∧ a_own a r f v = true)) 1 = 0 from ct_sf (p := fun r => bx_b (a_left a r ∧ ∃ v : Nat, v < 100 ∧ lo.toInt ≤ (v : Int) ∧ (v : Int) ≤ hi.toInt ∧ a_own a r f v = true)) h0] at this
          exact this
        · refine jr_iload_5 C d_M_band_29 ?_
          refine jr_aload_0 C d_M_band_31 ?_
          refine gM_records C d_M_band_32 ?_
          refine jr_eqi m1 ?_
          refine jr_N_gt (tgt := 161) C d_M_band_35 (by decide) (by omega) (by omega) (fun h => ?_) (fun h => ?_)
          · refine jr_iload_4 C d_M_band_161 ?_
            exact hR _ _ _ _ d_M_band_163 rfl ⟨congrArg nI (by
              rw [show r = a_n a + 1 by omega]
              exact (ct_ext (by omega) (fun i h1 h2 => bx_neg.mpr (fun g => by have := (hw.2.2.2.1 i g.1.1).2; omega))).symm), hm2⟩
          · refine jr_iconst (v := nI 0) C d_M_band_38 (by decide) ?_
            refine jr_istore_6 C d_M_band_39 rfl ?_
            refine jr_iconst (v := nI 0) C d_M_band_41 (by decide) ?_
            refine jr_istore_7 C d_M_band_42 rfl ?_
            have LK := lp_up (P := fun i => fx_J X (w_M q k σ2) 44 [some (.ref (q 0)), some (.int (nI f)), some (.int lo), some (.int hi), some (.int (nI (ct_n (fun r => bx_b (a_left a r ∧ ∃ v : Nat, v < 100 ∧ lo.toInt ≤ (v : Int) ∧ (v : Int) ≤ hi.toInt ∧ a_own a r f v = true)) r))), some (.int (nI r)), some (.int (b01 (bx_b (∃ j, j < i ∧ (R j).1 = r ∧ (R j).2.1 = f ∧ lo.toInt ≤ ((R j).2.2 : Int) ∧ ((R j).2.2 : Int) ≤ hi.toInt)))), some (.int (nI i))] []) (a_v a) (fun i hi2 ih2 => ?_)
            · have := LK 0 (by omega)
              rw [bx_neg.mpr (fun ⟨j, g, _⟩ => by omega)] at this
              exact this
            · refine jr_iload_7 C d_M_band_44 ?_
              refine jr_aload_0 C d_M_band_46 ?_
              refine gM_values C d_M_band_47 ?_
              refine jr_eqi m2 ?_
              refine jr_N_ge (tgt := 130) C d_M_band_50 (by decide) (by omega) (by omega) (fun h2 => ?_) (fun h2 => ?_)
              · have eX : bx_b (∃ j, j < i ∧ (R j).1 = r ∧ (R j).2.1 = f ∧ lo.toInt ≤ ((R j).2.2 : Int) ∧ ((R j).2.2 : Int) ≤ hi.toInt) = bx_b (∃ v : Nat, v < 100 ∧ lo.toInt ≤ (v : Int) ∧ (v : Int) ≤ hi.toInt ∧ a_own a r f v = true) := by
                  refine bx_congr ⟨fun ⟨j, g1, g2, g3, g4, g5⟩ => ⟨(R j).2.2, (m3 j (by omega)).2.2.2.1, g4, g5, (pm_own hm2 r f _).mpr ⟨j, by omega, by rw [← g2, ← g3]⟩⟩, fun ⟨v, g1, g2, g3, g4⟩ => ?_⟩
                  obtain ⟨j, g5, g6⟩ := (pm_own hm2 r f v).mp g4
                  exact ⟨j, by omega, by rw [g6], by rw [g6], by rw [g6]; exact g2, by rw [g6]; exact g3⟩
                rw [eX]
                have go : ∀ b, ct_n (fun r => bx_b (a_left a r ∧ ∃ v : Nat, v < 100 ∧ lo.toInt ≤ (v : Int) ∧ (v : Int) ≤ hi.toInt ∧ a_own a r f v = true)) r + b = ct_n (fun r => bx_b (a_left a r ∧ ∃ v : Nat, v < 100 ∧ lo.toInt ≤ (v : Int) ∧ (v : Int) ≤ hi.toInt ∧ a_own a r f v = true)) (r + 1) → ∀ z6 z7 : Option Value, fx_J X (w_M q k σ2) 152 [some (.ref (q 0)), some (.int (nI f)), some (.int lo), some (.int hi), some (.int (nI (ct_n (fun r => bx_b (a_left a r ∧ ∃ v : Nat, v < 100 ∧ lo.toInt ≤ (v : Int) ∧ (v : Int) ≤ hi.toInt ∧ a_own a r f v = true)) r))), some (.int (nI r)), z6, z7] [.int (nI b), .int (nI (ct_n (fun r => bx_b (a_left a r ∧ ∃ v : Nat, v < 100 ∧ lo.toInt ≤ (v : Int) ∧ (v : Int) ≤ hi.toInt ∧ a_own a r f v = true)) r))] := by
                  intro b hb z6 z7
                  refine jr_iaddN C d_M_band_152 ?_
                  refine jr_istore_4 C d_M_band_153 rfl ?_
                  refine jr_incN_5 C d_M_band_155 rfl ?_
                  refine jr_goto (tgt := 29) C d_M_band_158 (by decide) ?_
                  rw [hb]
                  exact ih (by omega) (by omega) _ _
                refine jr_iload_4 C d_M_band_130 ?_
                refine jr_iload_6 C d_M_band_132 ?_
                refine jr_if_eq (tgt := 151) C d_M_band_134 (by decide) (fun h3 => ?_) (fun h3 => ?_)
                · rw [b01_eq, bx_neg] at h3
                  refine jr_iconst (v := nI 0) C d_M_band_151 (by decide) ?_
                  exact go 0 (ct_sf (p := fun r => bx_b (a_left a r ∧ ∃ v : Nat, v < 100 ∧ lo.toInt ≤ (v : Int) ∧ (v : Int) ≤ hi.toInt ∧ a_own a r f v = true)) (bx_neg.mpr (fun g => h3 g.2))).symm _ _
                · rw [b01_ne, bx_iff] at h3
                  refine jr_aload_0 C d_M_band_137 ?_
                  refine gM_left C d_M_band_138 ?_
                  refine jr_iload_5 C d_M_band_141 ?_
                  refine aM_left C (by omega) d_M_band_143 ?_
                  refine jr_eqi (hlft r hr1 (by omega)) ?_
                  refine jr_if_eq (tgt := 151) C d_M_band_144 (by decide) (fun h4 => ?_) (fun h4 => ?_)
                  · rw [b01_eq, bx_neg] at h4
                    refine jr_iconst (v := nI 0) C d_M_band_151 (by decide) ?_
                    exact go 0 (ct_sf (p := fun r => bx_b (a_left a r ∧ ∃ v : Nat, v < 100 ∧ lo.toInt ≤ (v : Int) ∧ (v : Int) ≤ hi.toInt ∧ a_own a r f v = true)) (bx_neg.mpr (fun g => h4 g.1))).symm _ _
                  · rw [b01_ne, bx_iff] at h4
                    refine jr_iconst (v := nI 1) C d_M_band_147 (by decide) ?_
                    refine jr_goto (tgt := 152) C d_M_band_148 (by decide) ?_
                    exact go 1 (ct_st (p := fun r => bx_b (a_left a r ∧ ∃ v : Nat, v < 100 ∧ lo.toInt ≤ (v : Int) ∧ (v : Int) ≤ hi.toInt ∧ a_own a r f v = true)) (bx_iff.mpr ⟨h4, h3⟩)).symm _ _
              · obtain ⟨r1, r2, r3, r4, r5, r6, r7⟩ := m3 i h2
                have go : ∀ (b : Bool) (z6 : Option Value), (b = true ↔ ∃ j, j < i + 1 ∧ (R j).1 = r ∧ (R j).2.1 = f ∧ lo.toInt ≤ ((R j).2.2 : Int) ∧ ((R j).2.2 : Int) ≤ hi.toInt) → fx_J X (w_M q k σ2) 122 [some (.ref (q 0)), some (.int (nI f)), some (.int lo), some (.int hi), some (.int (nI (ct_n (fun r => bx_b (a_left a r ∧ ∃ v : Nat, v < 100 ∧ lo.toInt ≤ (v : Int) ∧ (v : Int) ≤ hi.toInt ∧ a_own a r f v = true)) r))), some (.int (nI r)), z6, some (.int (nI i))] [.int (b01 b)] := by
                  intro b z6 hb
                  refine jr_istore_6 C d_M_band_122 rfl ?_
                  refine jr_incN_7 C d_M_band_124 rfl ?_
                  refine jr_goto (tgt := 44) C d_M_band_127 (by decide) ?_
                  rw [← bx_eq hb.symm]
                  exact ih2 h2
                have no : ∀ z6 : Option Value, (¬ ∃ j, j < i + 1 ∧ (R j).1 = r ∧ (R j).2.1 = f ∧ lo.toInt ≤ ((R j).2.2 : Int) ∧ ((R j).2.2 : Int) ≤ hi.toInt) → fx_J X (w_M q k σ2) 121 [some (.ref (q 0)), some (.int (nI f)), some (.int lo), some (.int hi), some (.int (nI (ct_n (fun r => bx_b (a_left a r ∧ ∃ v : Nat, v < 100 ∧ lo.toInt ≤ (v : Int) ∧ (v : Int) ≤ hi.toInt ∧ a_own a r f v = true)) r))), some (.int (nI r)), z6, some (.int (nI i))] [] := by
                  intro z6 hn
                  refine jr_iconst (v := nI 0) C d_M_band_121 (by decide) ?_
                  exact go false _ ⟨fun g => absurd g (by decide), fun g => absurd g hn⟩
                refine jr_iload_6 C d_M_band_53 ?_
                refine jr_if_ne (tgt := 117) C d_M_band_55 (by decide) (fun h3 => ?_) (fun h3 => ?_)
                · rw [b01_ne, bx_iff] at h3
                  obtain ⟨j, g1, g2⟩ := h3
                  refine jr_iconst (v := nI 1) C d_M_band_117 (by decide) ?_
                  refine jr_goto (tgt := 122) C d_M_band_118 (by decide) ?_
                  exact go true _ ⟨fun _ => ⟨j, by omega, g2⟩, fun _ => rfl⟩
                · rw [b01_eq, bx_neg] at h3
                  have key : (¬ ((R i).1 = r ∧ (R i).2.1 = f ∧ lo.toInt ≤ ((R i).2.2 : Int) ∧ ((R i).2.2 : Int) ≤ hi.toInt)) → ¬ ∃ j, j < i + 1 ∧ (R j).1 = r ∧ (R j).2.1 = f ∧ lo.toInt ≤ ((R j).2.2 : Int) ∧ ((R j).2.2 : Int) ≤ hi.toInt := by
                    rintro hk ⟨j, g1, g2⟩
                    by_cases e : j = i
                    · rw [e] at g2; exact hk g2
                    · exact h3 ⟨j, by omega, g2⟩
                  refine jr_aload_0 C d_M_band_58 ?_
                  refine gM_rows C d_M_band_59 ?_
                  refine jr_iconst (v := nI 3) C d_M_band_62 (by decide) ?_
                  refine jr_iload_7 C d_M_band_63 ?_
                  refine jr_imulN C d_M_band_65 ?_
                  refine aM_rows C (by omega) d_M_band_66 ?_
                  refine jr_eqi r5 ?_
                  refine jr_iload_5 C d_M_band_67 ?_
                  refine jr_N_ne (tgt := 121) C d_M_band_69 (by decide) (by omega) (by omega) (fun h4 => ?_) (fun h4 => ?_)
                  · exact no _ (key (fun g => h4 g.1))
                  · refine jr_aload_0 C d_M_band_72 ?_
                    refine gM_rows C d_M_band_73 ?_
                    refine jr_iconst (v := nI 3) C d_M_band_76 (by decide) ?_
                    refine jr_iload_7 C d_M_band_77 ?_
                    refine jr_imulN C d_M_band_79 ?_
                    refine jr_iconst (v := nI 1) C d_M_band_80 (by decide) ?_
                    refine jr_iaddN C d_M_band_81 ?_
                    refine aM_rows C (by omega) d_M_band_82 ?_
                    refine jr_eqi r6 ?_
                    refine jr_iload_1 C d_M_band_83 ?_
                    refine jr_N_ne (tgt := 121) C d_M_band_84 (by decide) (by omega) (by omega) (fun h5 => ?_) (fun h5 => ?_)
                    · exact no _ (key (fun g => h5 g.2.1))
                    · refine jr_aload_0 C d_M_band_87 ?_
                      refine gM_rows C d_M_band_88 ?_
                      refine jr_iconst (v := nI 3) C d_M_band_91 (by decide) ?_
                      refine jr_iload_7 C d_M_band_92 ?_
                      refine jr_imulN C d_M_band_94 ?_
                      refine jr_iconst (v := nI 2) C d_M_band_95 (by decide) ?_
                      refine jr_iaddN C d_M_band_96 ?_
                      refine aM_rows C (by omega) d_M_band_97 ?_
                      refine jr_eqi r7 ?_
                      refine jr_iload_2 C d_M_band_98 ?_
                      refine jr_icmp_lt (tgt := 121) C d_M_band_99 (by decide) (fun h6 => ?_) (fun h6 => ?_)
                      · rw [Int32.lt_iff_toInt_lt, nI_toInt (by omega)] at h6
                        exact no _ (key (fun g => by have := g.2.2.1; omega))
                      · rw [Int32.lt_iff_toInt_lt, nI_toInt (by omega)] at h6
                        refine jr_aload_0 C d_M_band_102 ?_
                        refine gM_rows C d_M_band_103 ?_
                        refine jr_iconst (v := nI 3) C d_M_band_106 (by decide) ?_
                        refine jr_iload_7 C d_M_band_107 ?_
                        refine jr_imulN C d_M_band_109 ?_
                        refine jr_iconst (v := nI 2) C d_M_band_110 (by decide) ?_
                        refine jr_iaddN C d_M_band_111 ?_
                        refine aM_rows C (by omega) d_M_band_112 ?_
                        refine jr_eqi r7 ?_
                        refine jr_iload_3 C d_M_band_113 ?_
                        refine jr_icmp_gt (tgt := 121) C d_M_band_114 (by decide) (fun h7 => ?_) (fun h7 => ?_)
                        · rw [Int32.lt_iff_toInt_lt, nI_toInt (by omega)] at h7
                          exact no _ (key (fun g => by have := g.2.2.2; omega))
                        · rw [Int32.lt_iff_toInt_lt, nI_toInt (by omega)] at h7
                          refine jr_iconst (v := nI 1) C d_M_band_117 (by decide) ?_
                          refine jr_goto (tgt := 122) C d_M_band_118 (by decide) ?_
                          exact go true _ ⟨fun _ => ⟨i, by omega, h4, h5, by omega, by omega⟩, fun _ => rfl⟩
      · have e3 : hi < lo := by
          rw [Int32.lt_iff_toInt_lt]
          rw [Int32.le_iff_toInt_le] at e2
          omega
        dsimp only at hR
        rw [if_pos e3] at hR
        refine jr_iconst (v := -1) C d_M_band_17 (by decide) ?_
        exact hR _ _ _ _ d_M_band_18 rfl ⟨rfl, hm⟩
  · rw [ix_no (by omega) h1] at hR
    refine jr_if_eq (tgt := 17) C d_M_band_9 (by decide) (fun e1 => ?_) (fun e1 => ?_)
    · refine jr_iconst (v := -1) C d_M_band_17 (by decide) ?_
      exact hR _ _ _ _ d_M_band_18 rfl ⟨rfl, hm⟩
    · exact absurd nI_0 e1
theorem cM_missing (hw : a_wf a) (hm : rm_r a R τ) (y : Int32) : fx_MI l D cl_s (ty_M k) (w_M q k) y_M_missing (k_M_missing :: tb_l) rm_M_missing [.ref (q 0), .int y] τ (fun r u => r = sp_missing a y ∧ rm_r a R u) := by
  have hn := hw.1
  have hv4 := hw.2.1
  refine fx_enterI (by decide +kernel) [some (.ref (q 0)), some (.int y), none, none, none, none] rfl (Nat.le_of_ble_eq_true rfl) (Nat.le_of_ble_eq_true rfl) (fun X C hR => ?_)
  unfold sp_missing at hR
  refine jr_aload_0 C d_M_missing_0 ?_
  refine jr_iconst (v := nI 0) C d_M_missing_1 (by decide) ?_
  refine pM_thrown C d_M_missing_2 ?_
  refine jr_iload_1 C d_M_missing_5 ?_
  refine qM_M_isFacet C (cM_isFacet l D (ty_M k) (w_M q k) (ms_thr τ (nI 0)) y) ⟨Nat.le_of_ble_eq_true rfl, Nat.le_of_ble_eq_true rfl⟩ (Nat.le_of_ble_eq_true rfl) d_M_missing_6 (fx_p (fun z1 h1 => ?_))
  rcases h1 with ⟨rfl, f, hf, rfl⟩ | ⟨rfl, h1⟩
  · rw [ix_in hf (by omega)] at hR
    refine jr_if_ne (tgt := 14) C d_M_missing_9 (by decide) (fun e1 => ?_) (fun e1 => ?_)
    · refine jr_iconst (v := nI 0) C d_M_missing_14 (by decide) ?_
      refine jr_istore_2 C d_M_missing_15 rfl ?_
      refine jr_aload_0 C d_M_missing_16 ?_
      refine qM_M_sort C (cM_sort l D q k (ms_thr τ (nI 0)) a R hw hm) rfl ⟨Nat.le_of_ble_eq_true rfl, Nat.le_of_ble_eq_true rfl⟩ (Nat.le_of_ble_eq_true rfl) d_M_missing_17 (fun u hu => ?_)
      obtain ⟨A, O, L, m, rfl, hL, -⟩ := hu
      refine jr_iconst (v := nI 1) C d_M_missing_20 (by decide) ?_
      refine jr_istore_3 C d_M_missing_21 rfl ?_
      generalize eS : ms_man (ms_lft (ms_one (ms_any (ms_thr τ (nI 0)) A) O) L) m = σ2
      have hlft : ∀ r, 1 ≤ r → r ≤ a_n a → m_lft σ2 r = b01 (bx_b (a_left a r)) := by rw [← eS]; exact hL
      have hm2 : rm_r a R σ2 := by rw [← eS]; exact hm
      obtain ⟨m1, m2, m3, m4, m5, m6, m7⟩ := id hm2
      have h0 : bx_b (a_left a 0 ∧ ¬ ∃ v, v < 100 ∧ a_own a 0 f v = true) = false := bx_neg.mpr (fun h => by have := (hw.2.2.2.1 0 h.1.1).1; omega)
      have LR := lp_up (P := fun r => 1 ≤ r → ∀ z4 z5 : Option Value, fx_J X (w_M q k σ2) 22 [some (.ref (q 0)), some (.int (nI f)), some (.int (nI (ct_n (fun r => bx_b (a_left a r ∧ ¬ ∃ v, v < 100 ∧ a_own a r f v = true)) r))), some (.int (nI r)), z4, z5] []) (a_n a + 1) (fun r hr ih hr1 z4 z5 => ?_)
      · have := LR 1 (by omega) (Nat.le_refl 1) none none
        rw [show ct_n (fun r => bx_b (a_left a r ∧ ¬ ∃ v, v < 100 ∧ a_own a r f v = true)) 1 = 0 from ct_sf (p := fun r => bx_b (a_left a r ∧ ¬ ∃ v, v < 100 ∧ a_own a r f v = true)) h0] at this
        exact this
      · refine jr_iload_3 C d_M_missing_22 ?_
        refine jr_aload_0 C d_M_missing_23 ?_
        refine gM_records C d_M_missing_24 ?_
        refine jr_eqi m1 ?_
        refine jr_N_gt (tgt := 119) C d_M_missing_27 (by decide) (by omega) (by omega) (fun h => ?_) (fun h => ?_)
        · refine jr_iload_2 C d_M_missing_119 ?_
          exact hR _ _ _ _ d_M_missing_120 rfl ⟨congrArg nI (by
            rw [show r = a_n a + 1 by omega]
            exact (ct_ext (by omega) (fun i h1 h2 => bx_neg.mpr (fun g => by have := (hw.2.2.2.1 i g.1.1).2; omega))).symm), hm2⟩
        · refine jr_iconst (v := nI 1) C d_M_missing_30 (by decide) ?_
          refine jr_istore_4 C d_M_missing_31 rfl ?_
          refine jr_iconst (v := nI 0) C d_M_missing_33 (by decide) ?_
          refine jr_istore_5 C d_M_missing_34 rfl ?_
          have LK := lp_up (P := fun i => fx_J X (w_M q k σ2) 36 [some (.ref (q 0)), some (.int (nI f)), some (.int (nI (ct_n (fun r => bx_b (a_left a r ∧ ¬ ∃ v, v < 100 ∧ a_own a r f v = true)) r))), some (.int (nI r)), some (.int (b01 (bx_b (¬ ∃ j, j < i ∧ (R j).1 = r ∧ (R j).2.1 = f)))), some (.int (nI i))] []) (a_v a) (fun i hi2 ih2 => ?_)
          · have := LK 0 (by omega)
            rw [bx_iff.mpr (fun ⟨j, g, _⟩ => by omega)] at this
            exact this
          · refine jr_iload_5 C d_M_missing_36 ?_
            refine jr_aload_0 C d_M_missing_38 ?_
            refine gM_values C d_M_missing_39 ?_
            refine jr_eqi m2 ?_
            refine jr_N_ge (tgt := 91) C d_M_missing_42 (by decide) (by omega) (by omega) (fun h2 => ?_) (fun h2 => ?_)
            · have eX : bx_b (¬ ∃ j, j < i ∧ (R j).1 = r ∧ (R j).2.1 = f) = bx_b (¬ ∃ v, v < 100 ∧ a_own a r f v = true) := by
                refine bx_congr (not_congr ⟨fun ⟨j, g1, g2, g3⟩ => ⟨(R j).2.2, (m3 j (by omega)).2.2.2.1, (pm_own hm2 r f _).mpr ⟨j, by omega, by rw [← g2, ← g3]⟩⟩, fun ⟨v, g1, g4⟩ => ?_⟩)
                obtain ⟨j, g5, g6⟩ := (pm_own hm2 r f v).mp g4
                exact ⟨j, by omega, by rw [g6], by rw [g6]⟩
              rw [eX]
              have go : ∀ b, ct_n (fun r => bx_b (a_left a r ∧ ¬ ∃ v, v < 100 ∧ a_own a r f v = true)) r + b = ct_n (fun r => bx_b (a_left a r ∧ ¬ ∃ v, v < 100 ∧ a_own a r f v = true)) (r + 1) → ∀ z4 z5 : Option Value, fx_J X (w_M q k σ2) 111 [some (.ref (q 0)), some (.int (nI f)), some (.int (nI (ct_n (fun r => bx_b (a_left a r ∧ ¬ ∃ v, v < 100 ∧ a_own a r f v = true)) r))), some (.int (nI r)), z4, z5] [.int (nI b), .int (nI (ct_n (fun r => bx_b (a_left a r ∧ ¬ ∃ v, v < 100 ∧ a_own a r f v = true)) r))] := by
                intro b hb z4 z5
                refine jr_iaddN C d_M_missing_111 ?_
                refine jr_istore_2 C d_M_missing_112 rfl ?_
                refine jr_incN_3 C d_M_missing_113 rfl ?_
                refine jr_goto (tgt := 22) C d_M_missing_116 (by decide) ?_
                rw [hb]
                exact ih (by omega) (by omega) _ _
              refine jr_iload_2 C d_M_missing_91 ?_
              refine jr_iload_4 C d_M_missing_92 ?_
              refine jr_if_eq (tgt := 110) C d_M_missing_94 (by decide) (fun h3 => ?_) (fun h3 => ?_)
              · rw [b01_eq, bx_neg] at h3
                refine jr_iconst (v := nI 0) C d_M_missing_110 (by decide) ?_
                exact go 0 (ct_sf (p := fun r => bx_b (a_left a r ∧ ¬ ∃ v, v < 100 ∧ a_own a r f v = true)) (bx_neg.mpr (fun g => h3 g.2))).symm _ _
              · rw [b01_ne, bx_iff] at h3
                refine jr_aload_0 C d_M_missing_97 ?_
                refine gM_left C d_M_missing_98 ?_
                refine jr_iload_3 C d_M_missing_101 ?_
                refine aM_left C (by omega) d_M_missing_102 ?_
                refine jr_eqi (hlft r hr1 (by omega)) ?_
                refine jr_if_eq (tgt := 110) C d_M_missing_103 (by decide) (fun h4 => ?_) (fun h4 => ?_)
                · rw [b01_eq, bx_neg] at h4
                  refine jr_iconst (v := nI 0) C d_M_missing_110 (by decide) ?_
                  exact go 0 (ct_sf (p := fun r => bx_b (a_left a r ∧ ¬ ∃ v, v < 100 ∧ a_own a r f v = true)) (bx_neg.mpr (fun g => h4 g.1))).symm _ _
                · rw [b01_ne, bx_iff] at h4
                  refine jr_iconst (v := nI 1) C d_M_missing_106 (by decide) ?_
                  refine jr_goto (tgt := 111) C d_M_missing_107 (by decide) ?_
                  exact go 1 (ct_st (p := fun r => bx_b (a_left a r ∧ ¬ ∃ v, v < 100 ∧ a_own a r f v = true)) (bx_iff.mpr ⟨h4, h3⟩)).symm _ _
            · obtain ⟨r1, r2, r3, r4, r5, r6, r7⟩ := m3 i h2
              have go : ∀ (b : Bool) (z4 : Option Value), (b = true ↔ ¬ ∃ j, j < i + 1 ∧ (R j).1 = r ∧ (R j).2.1 = f) → fx_J X (w_M q k σ2) 83 [some (.ref (q 0)), some (.int (nI f)), some (.int (nI (ct_n (fun r => bx_b (a_left a r ∧ ¬ ∃ v, v < 100 ∧ a_own a r f v = true)) r))), some (.int (nI r)), z4, some (.int (nI i))] [.int (b01 b)] := by
                intro b z4 hb
                refine jr_istore_4 C d_M_missing_83 rfl ?_
                refine jr_incN_5 C d_M_missing_85 rfl ?_
                refine jr_goto (tgt := 36) C d_M_missing_88 (by decide) ?_
                rw [← bx_eq hb.symm]
                exact ih2 h2
              refine jr_iload_4 C d_M_missing_45 ?_
              refine jr_if_eq (tgt := 82) C d_M_missing_47 (by decide) (fun h3 => ?_) (fun h3 => ?_)
              · rw [b01_eq, bx_neg] at h3
                refine jr_iconst (v := nI 0) C d_M_missing_82 (by decide) ?_
                exact go false _ ⟨fun g => absurd g (by decide), fun g => absurd (fun ⟨j, g1, g2⟩ => g ⟨j, by omega, g2⟩) h3⟩
              · rw [b01_ne, bx_iff] at h3
                have yes : ¬ ((R i).1 = r ∧ (R i).2.1 = f) → ∀ z4 : Option Value, fx_J X (w_M q k σ2) 78 [some (.ref (q 0)), some (.int (nI f)), some (.int (nI (ct_n (fun r => bx_b (a_left a r ∧ ¬ ∃ v, v < 100 ∧ a_own a r f v = true)) r))), some (.int (nI r)), z4, some (.int (nI i))] [] := by
                  intro hk z4
                  refine jr_iconst (v := nI 1) C d_M_missing_78 (by decide) ?_
                  refine jr_goto (tgt := 83) C d_M_missing_79 (by decide) ?_
                  refine go true _ ⟨fun _ => ?_, fun _ => rfl⟩
                  rintro ⟨j, g1, g2⟩
                  by_cases e : j = i
                  · rw [e] at g2; exact hk g2
                  · exact h3 ⟨j, by omega, g2⟩
                refine jr_aload_0 C d_M_missing_50 ?_
                refine gM_rows C d_M_missing_51 ?_
                refine jr_iconst (v := nI 3) C d_M_missing_54 (by decide) ?_
                refine jr_iload_5 C d_M_missing_55 ?_
                refine jr_imulN C d_M_missing_57 ?_
                refine aM_rows C (by omega) d_M_missing_58 ?_
                refine jr_eqi r5 ?_
                refine jr_iload_3 C d_M_missing_59 ?_
                refine jr_N_ne (tgt := 78) C d_M_missing_60 (by decide) (by omega) (by omega) (fun h4 => ?_) (fun h4 => ?_)
                · exact yes (fun g => h4 g.1) _
                · refine jr_aload_0 C d_M_missing_63 ?_
                  refine gM_rows C d_M_missing_64 ?_
                  refine jr_iconst (v := nI 3) C d_M_missing_67 (by decide) ?_
                  refine jr_iload_5 C d_M_missing_68 ?_
                  refine jr_imulN C d_M_missing_70 ?_
                  refine jr_iconst (v := nI 1) C d_M_missing_71 (by decide) ?_
                  refine jr_iaddN C d_M_missing_72 ?_
                  refine aM_rows C (by omega) d_M_missing_73 ?_
                  refine jr_eqi r6 ?_
                  refine jr_iload_1 C d_M_missing_74 ?_
                  refine jr_N_eq (tgt := 82) C d_M_missing_75 (by decide) (by omega) (by omega) (fun h5 => ?_) (fun h5 => ?_)
                  · refine jr_iconst (v := nI 0) C d_M_missing_82 (by decide) ?_
                    exact go false _ ⟨fun g => absurd g (by decide), fun g => absurd ⟨i, by omega, h4, h5⟩ g⟩
                  · exact yes (fun g => h5 g.2) _
    · exact absurd e1 (by decide)
  · rw [ix_no (by omega) h1] at hR
    refine jr_if_ne (tgt := 14) C d_M_missing_9 (by decide) (fun e1 => ?_) (fun e1 => ?_)
    · exact absurd nI_0 e1
    · refine jr_iconst (v := -1) C d_M_missing_12 (by decide) ?_
      exact hR _ _ _ _ d_M_missing_13 rfl ⟨rfl, hm⟩
theorem sp_cm (f v : Nat) : sp_cnt a f v ≤ sp_many a := ct_mono (fun r _ h => bx_iff.mpr (bx_iff.mp h).1)
theorem cM_share (hw : a_wf a) (hm : rm_r a R τ) (y z s : Int32) : fx_ML l D cl_s (ty_M k) (w_M q k) y_M_share (k_M_share :: tb_l) rm_M_share [.ref (q 0), .int y, .int z, .int s] τ (fun r u => (match sp_share a y z s with
    | some t => r = t ∧ m_thr u = nI 0
    | none => m_thr u = nI 1) ∧ rm_r a R u) := by
  refine fx_enterL (by decide +kernel) [some (.ref (q 0)), some (.int y), some (.int z), some (.int s), none, none, none, none, none] rfl (Nat.le_of_ble_eq_true rfl) (Nat.le_of_ble_eq_true rfl) (fun X C hR => ?_)
  unfold sp_share at hR
  refine jr_aload_0 C d_M_share_0 ?_
  refine jr_iconst (v := nI 0) C d_M_share_1 (by decide) ?_
  refine pM_thrown C d_M_share_2 ?_
  refine jr_iload_1 C d_M_share_5 ?_
  refine jr_iload_2 C d_M_share_6 ?_
  refine qM_M_isValue C (cM_isValue l D (ty_M k) (w_M q k) (ms_thr τ (nI 0)) y z) ⟨Nat.le_of_ble_eq_true rfl, Nat.le_of_ble_eq_true rfl⟩ (Nat.le_of_ble_eq_true rfl) d_M_share_7 (fx_p (fun z1 h1 => ?_))
  rcases h1 with ⟨rfl, ⟨f, hf, rfl⟩, v, hv, rfl⟩ | ⟨rfl, h1⟩
  · rw [ix_in hf (by omega), ix_in hv (by omega)] at hR
    dsimp only at hR
    refine jr_if_ne (tgt := 17) C d_M_share_10 (by decide) (fun e1 => ?_) (fun e1 => ?_)
    · refine jr_aload_0 C d_M_share_17 ?_
      refine jr_iload_1 C d_M_share_18 ?_
      refine qM_M_reckon C (cM_reckon l D q k (ms_thr τ (nI 0)) a R hw hm f hf) rfl ⟨Nat.le_of_ble_eq_true rfl, Nat.le_of_ble_eq_true rfl⟩ (Nat.le_of_ble_eq_true rfl) d_M_share_19 (fun u hu => ?_)
      have hu4 : m_thr u = nI 0 := hu.2.2.2
      have hle := sp_cm a f v
      have hle2 : sp_many a ≤ 64 := ct_le _ 64
      refine jr_aload_0 C d_M_share_22 ?_
      refine gM_counts C d_M_share_23 ?_
      refine jr_iload_2 C d_M_share_26 ?_
      refine aM_counts C (by omega) d_M_share_27 ?_
      refine jr_eqi (hu.2.1 v hv) ?_
      refine jr_istore_4 C d_M_share_28 rfl ?_
      refine jr_aload_0 C d_M_share_30 ?_
      refine gM_many C d_M_share_31 ?_
      refine jr_eqi hu.2.2.1 ?_
      refine jr_istore_5 C d_M_share_34 rfl ?_
      refine jr_iload_5 C d_M_share_36 ?_
      refine jr_if_ne (tgt := 48) C d_M_share_38 (by decide) (fun e2 => ?_) (fun e2 => ?_)
      · have h0 : 0 < sp_many a := by
          rcases Nat.eq_zero_or_pos (sp_many a) with e | e
          · rw [e] at e2; exact absurd nI_0 e2
          · exact e
        rw [if_neg (by omega)] at hR
        refine jr_iload_4 C d_M_share_48 ?_
        refine jr_istore_6 C d_M_share_50 rfl ?_
        refine jr_iload_5 C d_M_share_52 ?_
        refine jr_istore_7 C d_M_share_54 rfl ?_
        have LG := lp_ms (P := fun b => ∀ (c : Nat) (z8 : Option Value), c < 2 ^ 31 → b < 2 ^ 31 → Nat.gcd c b = Nat.gcd (sp_cnt a f v) (sp_many a) → fx_J X (w_M q k u) 56 [some (.ref (q 0)), some (.int (nI f)), some (.int (nI v)), some (.int s), some (.int (nI (sp_cnt a f v))), some (.int (nI (sp_many a))), some (.int (nI c)), some (.int (nI b)), z8] []) (fun b => b) (fun b ihb c z8 hc hb hg => ?_)
        · exact LG (sp_many a) (sp_cnt a f v) _ (by omega) (by omega) rfl
        · refine jr_iload_7 C d_M_share_56 ?_
          refine jr_if_le (tgt := 79) C d_M_share_58 (by decide) (fun e3 => ?_) (fun e3 => ?_)
          · have eb : b = 0 := by
              rcases Nat.eq_zero_or_pos b with e | e
              · exact e
              · exact absurd e3 (nI_nle e hb)
            subst eb
            rw [Nat.gcd_zero_right] at hg
            have hg0 : 0 < c := by rw [hg]; exact Nat.gcd_pos_of_pos_right _ h0
            refine jr_iload_3 C d_M_share_79 ?_
            refine jr_if_ne (tgt := 92) C d_M_share_80 (by decide) (fun e4 => ?_) (fun e4 => ?_)
            · refine jr_iload_5 C d_M_share_92 ?_
              refine jr_iload_6 C d_M_share_94 ?_
              refine jr_idivN C d_M_share_96 (by omega) (by omega) (by omega) ?_
              refine jr_i2l C d_M_share_97 (nI_l (by have := Nat.div_le_self (sp_many a) c; omega)) ?_
              exact hR _ _ _ _ d_M_share_98 ⟨⟨by rw [if_neg e4, hg], hu4⟩, hu.1⟩
            · refine jr_iload_4 C d_M_share_83 ?_
              refine jr_iload_6 C d_M_share_85 ?_
              refine jr_idivN C d_M_share_87 (by omega) (by omega) (by omega) ?_
              refine jr_i2l C d_M_share_88 (nI_l (by have := Nat.div_le_self (sp_cnt a f v) c; omega)) ?_
              refine jr_goto (tgt := 98) C d_M_share_89 (by decide) ?_
              exact hR _ _ _ _ d_M_share_98 ⟨⟨by rw [if_pos e4, hg], hu4⟩, hu.1⟩
          · have hb0 : 0 < b := by
              rcases Nat.eq_zero_or_pos b with e | e
              · rw [e] at e3; exact absurd (by rw [nI_0]; decide) e3
              · exact e
            have hlt := Nat.mod_lt c hb0
            refine jr_iload_6 C d_M_share_61 ?_
            refine jr_iload_7 C d_M_share_63 ?_
            refine jr_iremN C d_M_share_65 (by omega) (by omega) (by omega) ?_
            refine jr_istore_8 C d_M_share_66 rfl ?_
            refine jr_iload_7 C d_M_share_68 ?_
            refine jr_istore_6 C d_M_share_70 rfl ?_
            refine jr_iload_8 C d_M_share_72 ?_
            refine jr_istore_7 C d_M_share_74 rfl ?_
            refine jr_goto (tgt := 56) C d_M_share_76 (by decide) ?_
            refine ihb (c % b) hlt b _ hb (by omega) ?_
            rw [← hg, Nat.gcd_comm b, ← Nat.gcd_rec, Nat.gcd_comm]
      · have h0 : sp_many a = 0 := (nI_eq (by omega) (by omega)).mp (e2.trans nI_0.symm)
        rw [if_pos h0] at hR
        refine jr_aload_0 C d_M_share_41 ?_
        refine jr_iconst (v := nI 1) C d_M_share_42 (by decide) ?_
        refine pM_thrown C d_M_share_43 ?_
        refine jr_lconst (v := 0) C d_M_share_46 (by decide) ?_
        exact hR _ _ _ _ d_M_share_47 ⟨rfl, hu.1⟩
    · exact absurd e1 (by decide)
  · refine jr_if_ne (tgt := 17) C d_M_share_10 (by decide) (fun e1 => ?_) (fun e1 => ?_)
    · exact absurd nI_0 e1
    · refine jr_ldc2 C d_M_share_13 (List.mem_cons_of_mem _ cl_M_80) ?_
      rcases no_ix h1 with h | ⟨⟨f, h⟩, h2⟩
      · rw [h] at hR
        exact hR _ _ _ _ d_M_share_16 ⟨⟨rfl, rfl⟩, hm⟩
      · rw [h, h2] at hR
        exact hR _ _ _ _ d_M_share_16 ⟨⟨rfl, rfl⟩, hm⟩
end PM4
end
section
section AL
variable {X : fx_M} {l : Launch} {rm : Room} {D : va_G} {cl : List vw_C} {tys : List (ClassId × FieldType)} {cc : ByteArray} {Ts : List Cond} {own : String} {ws : va_W} {pc : Nat} {pl : List (Option Value)} {st : List Value}
theorem jr_alen {a v : Nat} {cA : ClassId} {x : vp_A} {ty : FieldType} (C : fx_C X l rm D cl tys cc Ts own) (q0 t0 : Nat) (ha : ws[q0]? = some (a, .inl (cA, x))) (ht : tys[t0]? = some (cA, ty)) (hv : x.1 = v) (hd : decode cc pc = .ok (.arraylength, 1)) (kk : fx_J X ws (pc + 1) pl (.int (nI v) :: st)) : fx_J X ws pc pl (.ref a :: st) := by
  intro H locs ls hP hD hS hl
  obtain ⟨hx, hb, -, hown, hts, hK, -, -, -, hDD, hcl, -⟩ := C
  rw [hDD, hcl] at hP
  exact va_alen (D := D) hx hb hK hP q0 t0 ha ht (v := nI v) (by rw [hv]; rfl) hd (kk H locs ls (by rw [hDD, hcl]; exact hP) hD hS hl)
end AL
theorem fx_enterN {l : Launch} {rm : Room} {D : va_G} {cl : List vw_C} {cc : ByteArray} {ts2 : List Cond} {S : Type} {w0 : va_W} {w : S → va_W} {tys : S → List (ClassId × FieldType)} {y : MethodName} {maxL mc ms : Nat} {As : List Value} {post : S → Prop} (hy : plainName y.cls = true) (hyn : y.name = "<init>") (pl : List (Option Value)) (hpl : fx_fl 0 pl = lv_args 0 As) (hlen : pl.length ≤ maxL) (hln : (lg_sl As).length ≤ maxL)
    (body : ∀ X : fx_M, fx_C X l rm D cl [] cc (Cond.code y cc maxL none :: ts2) y.cls → X.2.2.1.1.name = "<init>" → X.2.2.2.2.2.1 = 0 → X.2.2.2.2.2.2 = 0 → (∀ (X2 : fx_M) (u : S) (pc : Nat) (pl2 : List (Option Value)), X2.1 = X.1 → X2.2.1 = X.2.1 → X2.2.2.1 = X.2.2.1 → X2.2.2.2.1 = X.2.2.2.1 → X2.2.2.2.2.2.1 = mc → X2.2.2.2.2.2.2 = ms → va_K D cl (tys u) X.2.1.1 → decode cc pc = .ok (.return_, 1) → post u → fx_J X2 (w u) pc pl2 []) → fx_J X w0 0 pl []) : fx_MN l D cl w0 w tys y (Cond.code y cc maxL none :: ts2) rm As post mc ms := by
  intro sz
  refine Met.ofW (cc := cc) (maxL := maxL) (ret := none) hy rfl ?_
  intro p e s m args below meth c s₁ B hml hv
  obtain ⟨rfl, hsz, hP, hK, hD0⟩ := hv
  have hx := B.exec
  have hb := B.bytes
  have hr := B.returns
  have hts := atoms_spec (ws := Cond.code y cc maxL none :: ts2) B.pre
  have hown : s.vm.findClass y.cls = some m.cls := findClass_of_methodNamed B.named
  have hlocks : meth.locks = false := B.notSynchronized
  have hin : meth.name = "<init>" := (name_of_methodNamed B.named B.method).1.trans hyn
  subst hsz
  have hD := hD0.self (sz := s.heap.size)
  have hl := lv_entry As (n := maxL) hln
  rw [lg_entry_eq]
  refine body ((p, l, e, rm), (s, m, As.toArray, below), (meth, c, MQ below (va_Qv post (fun u t => fx_At D cl (tys u) (va_A w0 s.heap.size) (w u) t) (va_A w0 s.heap.size)) As.toArray s mc ms (va_A w0 s.heap.size)), (D, cl, va_A w0 s.heap.size), (maxL, 0, 0)) ⟨hx, hb, hml, hown, hts, hK, fun q h => Or.inr h, rfl, rfl, rfl, rfl, Nat.zero_le _, Nat.zero_le _⟩ hin rfl rfl ?_ s.heap [] _ hP hD va_S.rf ⟨hlen, by rw [hpl]; exact hl⟩
  intro X2 u pc pl2 e1 e2 e3 e4 e5 e6 hK2 hd hp
  obtain ⟨X21, X22, X23, X24, nL2, cells2, slots2⟩ := X2
  dsimp only at e1 e2 e3 e4 e5 e6 hK2
  subst e1 e2 e3 e4 e5 e6
  intro H locs ls hP2 hD2 hS2 hl2
  exact W.vret hx hb hr (fun t ht hW => ⟨⟨u, rfl, hp, by rw [ht]; exact hP2, va_K.moved hW.alike hK2, hD2⟩, hS2.F ht⟩) hS2.2.2 hd hlocks
theorem cJ_fill (l : Launch) (D : va_G) (tys : List (ClassId × FieldType)) (w : (Nat → Int32) → va_W) (a n q0 t0 : Nat) (cA : ClassId) (hn : n < 2 ^ 31) (ha : ∀ f, (w f)[q0]? = some (a, .inl (cA, n, .inl f))) (hset : ∀ f g, (w f).set q0 (a, .inl (cA, n, .inl g)) = w g) (ht : tys[t0]? = some (cA, .int)) (f0 : Nat → Int32) (v : Int32) : fx_MV l D cl_s tys w y_JA_fill (k_JA_fill :: tb_l) rm_JA_fill [.ref a, .int v] f0 (fun f => ∀ j, j < n → f j = v) := by
  refine fx_enterV (by decide +kernel) [some (.ref a), some (.int v), none, none] rfl (Nat.le_of_ble_eq_true rfl) (Nat.le_of_ble_eq_true rfl) (fun X C hR => ?_)
  refine jr_iconst (v := nI 0) C d_JA_fill_0 (by decide) ?_
  refine jr_istore_2 C d_JA_fill_1 rfl ?_
  refine jr_aload_0 C d_JA_fill_2 ?_
  refine jr_alen C q0 t0 (ha f0) ht rfl d_JA_fill_3 ?_
  refine jr_istore_3 C d_JA_fill_4 rfl ?_
  have L := lp_up (P := fun i => ∀ f : Nat → Int32, (∀ j, j < i → f j = v) → fx_J X (w f) 5 [some (.ref a), some (.int v), some (.int (nI i)), some (.int (nI n))] []) n (fun i hi ih f hf => ?_)
  · exact L 0 (by omega) f0 (fun j hj => by omega)
  · refine jr_iload_2 C d_JA_fill_5 ?_
    refine jr_iload_3 C d_JA_fill_6 ?_
    refine jr_N_ge (tgt := 20) C d_JA_fill_7 (by decide) (by omega) (by omega) (fun h => ?_) (fun h => ?_)
    · exact hR _ _ _ d_JA_fill_20 (fun j hj => hf j (by omega))
    · refine jr_aload_0 C d_JA_fill_10 ?_
      refine jr_iload_2 C d_JA_fill_11 ?_
      refine jr_iload_1 C d_JA_fill_12 ?_
      refine jr_iast C q0 t0 (ha f) ht h hn (hset f _) d_JA_fill_13 ?_
      refine jr_incN_2 C d_JA_fill_14 rfl ?_
      refine jr_goto (tgt := 5) C d_JA_fill_17 (by decide) ?_
      refine ih h _ (fun j hj => ?_)
      by_cases e : j = i
      · rw [e]; exact pk_us
      · rw [pk_un e]; exact hf j (by omega)
def a_0 : ab_T := ((0, 0), (fun _ _ _ => false), (fun _ _ => 100), (fun _ => false), (fun _ _ => false))
theorem wf_0 : a_wf a_0 := ⟨by decide, by decide, fun _ _ _ h => absurd h Bool.false_ne_true, fun _ h => absurd h Bool.false_ne_true, fun _ => ⟨fun _ => Nat.le_refl _, fun _ _ => rfl, fun _ => 0, fun _ _ h => absurd h (by show ¬ 100 < 100; decide)⟩⟩
abbrev rm_X_init : Room := { frames := 1, cells := 5, slots := 2500, locals := 23 }
abbrev rm_M_init : Room := { frames := 1, cells := 9, slots := 3094, locals := 23 }

theorem cX_init (l : Launch) (D : va_G) (q0 : Nat) : fx_MN l D cl_s [(q0, .inr (0, [.null, .null, .null, .null, .null, .int 0, .int 0, .long 0]))] (fun u : (Nat → Nat) × (Nat → ClassId) × sx_T => w_X u.1 u.2.1 u.2.2) (fun u => ty_X u.2.1) y_X_init (k_X_init :: tb_l) rm_X_init [.ref q0] (fun u => u.1 0 = q0 ∧ rx_r a_0 u.2.2) 5 2500 := by
  refine fx_enterN (by decide +kernel) rfl [some (.ref q0)] rfl (Nat.le_of_ble_eq_true rfl) (Nat.le_of_ble_eq_true rfl) (fun X C hin hc0 hs0 hR => ?_)
  refine jr_aload_0 C d_X_init_0 ?_
  refine jr_objInit C (List.mem_cons_of_mem _ ml_X_obj) (List.mem_cons_of_mem _ im_obj) (List.mem_cons_of_mem _ ci_obj) (Nat.le_of_ble_eq_true rfl) (Nat.le_of_ble_eq_true rfl) d_X_init_1 ?_
  refine jr_aload_0 C d_X_init_4 ?_
  refine jr_sipush (v := nI 600) C d_X_init_5 (by decide) ?_
  refine jr_newa (a0 := (600, .inr (.inl (fun _ => 0)))) C (List.mem_cons_of_mem _ ac_long) rfl (fun _ => rfl) (by omega) (by decide) (by show X.2.2.2.2.2.1 + 1 ≤ _; rw [hc0]; decide) (by show X.2.2.2.2.2.2 + 600 ≤ _; rw [hs0]; decide) d_X_init_8 (fun q1 c1 C => ?_)
  refine jr_w (ws2 := [(q0, .inr (0, [.null, .null, .null, .null, .null, .int 0, .int 0, .long 0])), (q1, .inl (c1, 600, .inr (.inl (fun _ => 0))))]) rfl ?_
  refine jr_putF (ty := .array .long) (ws2 := [(q0, .inr (0, [.ref q1, .null, .null, .null, .null, .int 0, .int 0, .long 0])), (q1, .inl (c1, 600, .inr (.inl (fun _ => 0))))]) C hin (fun w h => List.mem_cons_of_mem _ (u_X_in w h)) t_X t_X_ok n_X (ci := 0) rfl 0 0 rfl (by decide) (List.mem_cons_of_mem _ fl_X_holders) rfl rfl (t_X_ok 0 (by decide)) rfl rfl (Nat.le_of_ble_eq_true rfl) rfl d_X_init_10 ?_
  refine jr_aload_0 C d_X_init_13 ?_
  refine jr_sipush (v := nI 600) C d_X_init_14 (by decide) ?_
  refine jr_newa (a0 := (600, .inr (.inl (fun _ => 0)))) C (List.mem_cons_of_mem _ ac_long) rfl (fun _ => rfl) (by omega) (by decide) (by show X.2.2.2.2.2.1 + 1 + 1 ≤ _; rw [hc0]; decide) (by show X.2.2.2.2.2.2 + 600 + 600 ≤ _; rw [hs0]; decide) d_X_init_17 (fun q2 c2 C => ?_)
  refine jr_w (ws2 := [(q0, .inr (0, [.ref q1, .null, .null, .null, .null, .int 0, .int 0, .long 0])), (q1, .inl (c1, 600, .inr (.inl (fun _ => 0)))), (q2, .inl (c2, 600, .inr (.inl (fun _ => 0))))]) rfl ?_
  refine jr_putF (ty := .array .long) (ws2 := [(q0, .inr (0, [.ref q1, .ref q2, .null, .null, .null, .int 0, .int 0, .long 0])), (q1, .inl (c1, 600, .inr (.inl (fun _ => 0)))), (q2, .inl (c2, 600, .inr (.inl (fun _ => 0))))]) C hin (fun w h => List.mem_cons_of_mem _ (u_X_in w h)) t_X t_X_ok n_X (ci := 0) rfl 0 1 rfl (by decide) (List.mem_cons_of_mem _ fl_X_havers) rfl rfl (t_X_ok 1 (by decide)) rfl rfl (Nat.le_of_ble_eq_true rfl) rfl d_X_init_19 ?_
  refine jr_aload_0 C d_X_init_22 ?_
  refine jr_sipush (v := nI 600) C d_X_init_23 (by decide) ?_
  refine jr_newa (a0 := (600, .inl (fun _ => 0))) C (List.mem_cons_of_mem _ ac_int) rfl (fun _ => rfl) (by omega) (by decide) (by show X.2.2.2.2.2.1 + 1 + 1 + 1 ≤ _; rw [hc0]; decide) (by show X.2.2.2.2.2.2 + 600 + 600 + 600 ≤ _; rw [hs0]; decide) d_X_init_26 (fun q3 c3 C => ?_)
  refine jr_w (ws2 := [(q0, .inr (0, [.ref q1, .ref q2, .null, .null, .null, .int 0, .int 0, .long 0])), (q1, .inl (c1, 600, .inr (.inl (fun _ => 0)))), (q2, .inl (c2, 600, .inr (.inl (fun _ => 0)))), (q3, .inl (c3, 600, .inl (fun _ => 0)))]) rfl ?_
  refine jr_putF (ty := .array .int) (ws2 := [(q0, .inr (0, [.ref q1, .ref q2, .ref q3, .null, .null, .int 0, .int 0, .long 0])), (q1, .inl (c1, 600, .inr (.inl (fun _ => 0)))), (q2, .inl (c2, 600, .inr (.inl (fun _ => 0)))), (q3, .inl (c3, 600, .inl (fun _ => 0)))]) C hin (fun w h => List.mem_cons_of_mem _ (u_X_in w h)) t_X t_X_ok n_X (ci := 0) rfl 0 2 rfl (by decide) (List.mem_cons_of_mem _ fl_X_broaderOf) rfl rfl (t_X_ok 2 (by decide)) rfl rfl (Nat.le_of_ble_eq_true rfl) rfl d_X_init_28 ?_
  refine jr_aload_0 C d_X_init_31 ?_
  refine jr_get C (fun w h => List.mem_cons_of_mem _ (u_X_in w h)) (ci := 0) rfl 0 2 rfl (by decide) (List.mem_cons_of_mem _ fl_X_broaderOf) rfl d_X_init_32 ?_
  refine jr_iconst (v := -1) C d_X_init_35 (by decide) ?_
  refine jr_callSv (w := (fun f => [(q0, .inr (0, [.ref q1, .ref q2, .ref q3, .null, .null, .int 0, .int 0, .long 0])), (q1, .inl (c1, 600, .inr (.inl (fun _ => 0)))), (q2, .inl (c2, 600, .inr (.inl (fun _ => 0)))), (q3, .inl (c3, 600, .inl f))])) (σ := fun _ => 0) (As := [.ref q3, .int (-1)]) (rest := []) C (cJ_fill l D _ (fun f => [(q0, .inr (0, [.ref q1, .ref q2, .ref q3, .null, .null, .int 0, .int 0, .long 0])), (q1, .inl (c1, 600, .inr (.inl (fun _ => 0)))), (q2, .inl (c2, 600, .inr (.inl (fun _ => 0)))), (q3, .inl (c3, 600, .inl f))]) q3 600 3 2 c3 (by omega) (fun _ => rfl) (fun _ _ => rfl) rfl (fun _ => 0) (-1)) (gd_S ci_JA_fill ml_X_JA_fill st_JA_fill ii_JA) (n := 2) (by decide +kernel) rfl ⟨rfl, rfl⟩ ⟨Nat.le_of_ble_eq_true rfl, Nat.le_of_ble_eq_true rfl⟩ (Nat.le_of_ble_eq_true rfl) rfl d_X_init_36 (fun fb hfb => ?_)
  refine jr_w (ws2 := [(q0, .inr (0, [.ref q1, .ref q2, .ref q3, .null, .null, .int 0, .int 0, .long 0])), (q1, .inl (c1, 600, .inr (.inl (fun _ => 0)))), (q2, .inl (c2, 600, .inr (.inl (fun _ => 0)))), (q3, .inl (c3, 600, .inl fb))]) rfl ?_
  refine jr_aload_0 C d_X_init_39 ?_
  refine jr_sipush (v := nI 600) C d_X_init_40 (by decide) ?_
  refine jr_newa (a0 := (600, .inl (fun _ => 0))) C (List.mem_cons_of_mem _ ac_boolean) rfl (fun _ => rfl) (by omega) (by decide) (by show X.2.2.2.2.2.1 + 1 + 1 + 1 + 1 ≤ _; rw [hc0]; decide) (by show X.2.2.2.2.2.2 + 600 + 600 + 600 + 600 ≤ _; rw [hs0]; decide) d_X_init_43 (fun q4 c4 C => ?_)
  refine jr_w (ws2 := [(q0, .inr (0, [.ref q1, .ref q2, .ref q3, .null, .null, .int 0, .int 0, .long 0])), (q1, .inl (c1, 600, .inr (.inl (fun _ => 0)))), (q2, .inl (c2, 600, .inr (.inl (fun _ => 0)))), (q3, .inl (c3, 600, .inl fb)), (q4, .inl (c4, 600, .inl (fun _ => 0)))]) rfl ?_
  refine jr_putF (ty := .array .boolean) (ws2 := [(q0, .inr (0, [.ref q1, .ref q2, .ref q3, .ref q4, .null, .int 0, .int 0, .long 0])), (q1, .inl (c1, 600, .inr (.inl (fun _ => 0)))), (q2, .inl (c2, 600, .inr (.inl (fun _ => 0)))), (q3, .inl (c3, 600, .inl fb)), (q4, .inl (c4, 600, .inl (fun _ => 0)))]) C hin (fun w h => List.mem_cons_of_mem _ (u_X_in w h)) t_X t_X_ok n_X (ci := 0) rfl 0 3 rfl (by decide) (List.mem_cons_of_mem _ fl_X_chosen) rfl rfl (t_X_ok 3 (by decide)) rfl rfl (Nat.le_of_ble_eq_true rfl) rfl d_X_init_45 ?_
  refine jr_aload_0 C d_X_init_48 ?_
  refine jr_bipush (v := nI 100) C d_X_init_49 (by decide) ?_
  refine jr_newa (a0 := (100, .inl (fun _ => 0))) C (List.mem_cons_of_mem _ ac_int) rfl (fun _ => rfl) (by omega) (by decide) (by show X.2.2.2.2.2.1 + 1 + 1 + 1 + 1 + 1 ≤ _; rw [hc0]; decide) (by show X.2.2.2.2.2.2 + 600 + 600 + 600 + 600 + 100 ≤ _; rw [hs0]; decide) d_X_init_51 (fun q5 c5 C => ?_)
  refine jr_w (ws2 := [(q0, .inr (0, [.ref q1, .ref q2, .ref q3, .ref q4, .null, .int 0, .int 0, .long 0])), (q1, .inl (c1, 600, .inr (.inl (fun _ => 0)))), (q2, .inl (c2, 600, .inr (.inl (fun _ => 0)))), (q3, .inl (c3, 600, .inl fb)), (q4, .inl (c4, 600, .inl (fun _ => 0))), (q5, .inl (c5, 100, .inl (fun _ => 0)))]) rfl ?_
  refine jr_putF (ty := .array .int) (ws2 := [(q0, .inr (0, [.ref q1, .ref q2, .ref q3, .ref q4, .ref q5, .int 0, .int 0, .long 0])), (q1, .inl (c1, 600, .inr (.inl (fun _ => 0)))), (q2, .inl (c2, 600, .inr (.inl (fun _ => 0)))), (q3, .inl (c3, 600, .inl fb)), (q4, .inl (c4, 600, .inl (fun _ => 0))), (q5, .inl (c5, 100, .inl (fun _ => 0)))]) C hin (fun w h => List.mem_cons_of_mem _ (u_X_in w h)) t_X t_X_ok n_X (ci := 0) rfl 0 4 rfl (by decide) (List.mem_cons_of_mem _ fl_X_counts) rfl rfl (t_X_ok 4 (by decide)) rfl rfl (Nat.le_of_ble_eq_true rfl) rfl d_X_init_53 ?_
  obtain ⟨qf, eq⟩ : ∃ qf : Nat → Nat, qf = (fun i => match i with | 0 => q0 | 1 => q1 | 2 => q2 | 3 => q3 | 4 => q4 | _ => q5) := ⟨_, rfl⟩
  obtain ⟨kf, ek⟩ : ∃ kf : Nat → ClassId, kf = (fun i => match i with | 0 => c1 | 1 => c1 | 2 => c2 | 3 => c3 | 4 => c4 | _ => c5) := ⟨_, rfl⟩
  have C : fx_C (fx_up (fx_up (fx_up (fx_up (fx_up X 1 600) 1 600) 1 600) 1 600) 1 100) l rm_X_init D cl_s (ty_X kf) b_X_init (k_X_init :: tb_l) R_X := by rw [ek]; exact C
  refine jr_w (ws2 := w_X qf kf (((fun _ => 0), (fun _ => 0), fb, (fun _ => 0), (fun _ => 0)), (0, 0, 0))) (by rw [eq, ek]; rfl) ?_
  have e0 : qf 0 = q0 := by rw [eq]; rfl
  rw [← e0]
  refine jr_aload_0 C d_X_init_56 ?_
  refine jr_iconst (v := nI 0) C d_X_init_57 (by decide) ?_
  refine pX_records C d_X_init_58 ?_
  refine jr_aload_0 C d_X_init_61 ?_
  refine jr_iconst (v := nI 0) C d_X_init_62 (by decide) ?_
  refine pX_held C d_X_init_63 ?_
  refine jr_aload_0 C d_X_init_66 ?_
  refine jr_lconst (v := 0) C d_X_init_67 (by decide) ?_
  refine pX_hits C d_X_init_68 ?_
  refine hR _ (qf, kf, _) _ _ rfl rfl rfl rfl (by show X.2.2.2.2.2.1 + 1 + 1 + 1 + 1 + 1 = 5; omega) (by show X.2.2.2.2.2.2 + 600 + 600 + 600 + 600 + 100 = 2500; omega) C.2.2.2.2.2.1 d_X_init_71 ⟨e0, rfl, rfl, fun f v r _ _ _ => tb_0 r, fun f v r _ _ _ => ?_, fun f v hf hv => ?_, fun f v _ _ => nI_0.symm, fun r _ => tb_0 r⟩
  · rw [bx_neg.mpr (fun ⟨w, _, g, _⟩ => absurd g Bool.false_ne_true)]
    exact tb_0 r
  · exact hfb _ (by omega)
theorem cM_init (l : Launch) (D : va_G) (q0 : Nat) : fx_MN l D cl_s [(q0, .inr (1, [.int 0, .int 0, .int 0, .null, .null, .null, .null, .null, .null, .null, .null, .null, .int 0]))] (fun u : (Nat → Nat) × (Nat → ClassId) × sm_T => w_M u.1 u.2.1 u.2.2) (fun u => ty_M u.2.1) y_M_init (k_M_init :: tb_l) rm_M_init [.ref q0] (fun u => u.1 0 = q0 ∧ rm_r a_0 (fun _ => (0, 0, 0)) u.2.2) 9 3094 := by
  refine fx_enterN (by decide +kernel) rfl [some (.ref q0), none] rfl (Nat.le_of_ble_eq_true rfl) (Nat.le_of_ble_eq_true rfl) (fun X C hin hc0 hs0 hR => ?_)
  refine jr_aload_0 C d_M_init_0 ?_
  refine jr_objInit C (List.mem_cons_of_mem _ ml_M_obj) (List.mem_cons_of_mem _ im_obj) (List.mem_cons_of_mem _ ci_obj) (Nat.le_of_ble_eq_true rfl) (Nat.le_of_ble_eq_true rfl) d_M_init_1 ?_
  refine jr_aload_0 C d_M_init_4 ?_
  refine jr_sipush (v := nI 1200) C d_M_init_5 (by decide) ?_
  refine jr_newa (a0 := (1200, .inl (fun _ => 0))) C (List.mem_cons_of_mem _ ac_int) rfl (fun _ => rfl) (by omega) (by decide) (by show X.2.2.2.2.2.1 + 1 ≤ _; rw [hc0]; decide) (by show X.2.2.2.2.2.2 + 1200 ≤ _; rw [hs0]; decide) d_M_init_8 (fun q1 c1 C => ?_)
  refine jr_w (ws2 := [(q0, .inr (1, [.int 0, .int 0, .int 0, .null, .null, .null, .null, .null, .null, .null, .null, .null, .int 0])), (q1, .inl (c1, 1200, .inl (fun _ => 0)))]) rfl ?_
  refine jr_putF (ty := .array .int) (ws2 := [(q0, .inr (1, [.int 0, .int 0, .int 0, .ref q1, .null, .null, .null, .null, .null, .null, .null, .null, .int 0])), (q1, .inl (c1, 1200, .inl (fun _ => 0)))]) C hin (fun w h => List.mem_cons_of_mem _ (u_M_in w h)) t_M t_M_ok n_M (ci := 1) rfl 0 3 rfl (by decide) (List.mem_cons_of_mem _ fl_M_rows) rfl rfl (t_M_ok 3 (by decide)) rfl rfl (Nat.le_of_ble_eq_true rfl) rfl d_M_init_10 ?_
  refine jr_aload_0 C d_M_init_13 ?_
  refine jr_sipush (v := nI 600) C d_M_init_14 (by decide) ?_
  refine jr_newa (a0 := (600, .inl (fun _ => 0))) C (List.mem_cons_of_mem _ ac_int) rfl (fun _ => rfl) (by omega) (by decide) (by show X.2.2.2.2.2.1 + 1 + 1 ≤ _; rw [hc0]; decide) (by show X.2.2.2.2.2.2 + 1200 + 600 ≤ _; rw [hs0]; decide) d_M_init_17 (fun q2 c2 C => ?_)
  refine jr_w (ws2 := [(q0, .inr (1, [.int 0, .int 0, .int 0, .ref q1, .null, .null, .null, .null, .null, .null, .null, .null, .int 0])), (q1, .inl (c1, 1200, .inl (fun _ => 0))), (q2, .inl (c2, 600, .inl (fun _ => 0)))]) rfl ?_
  refine jr_putF (ty := .array .int) (ws2 := [(q0, .inr (1, [.int 0, .int 0, .int 0, .ref q1, .ref q2, .null, .null, .null, .null, .null, .null, .null, .int 0])), (q1, .inl (c1, 1200, .inl (fun _ => 0))), (q2, .inl (c2, 600, .inl (fun _ => 0)))]) C hin (fun w h => List.mem_cons_of_mem _ (u_M_in w h)) t_M t_M_ok n_M (ci := 1) rfl 0 4 rfl (by decide) (List.mem_cons_of_mem _ fl_M_broader) rfl rfl (t_M_ok 4 (by decide)) rfl rfl (Nat.le_of_ble_eq_true rfl) rfl d_M_init_19 ?_
  refine jr_aload_0 C d_M_init_22 ?_
  refine jr_bipush (v := nI 61) C d_M_init_23 (by decide) ?_
  refine jr_newa (a0 := (61, .inl (fun _ => 0))) C (List.mem_cons_of_mem _ ac_boolean) rfl (fun _ => rfl) (by omega) (by decide) (by show X.2.2.2.2.2.1 + 1 + 1 + 1 ≤ _; rw [hc0]; decide) (by show X.2.2.2.2.2.2 + 1200 + 600 + 61 ≤ _; rw [hs0]; decide) d_M_init_25 (fun q3 c3 C => ?_)
  refine jr_w (ws2 := [(q0, .inr (1, [.int 0, .int 0, .int 0, .ref q1, .ref q2, .null, .null, .null, .null, .null, .null, .null, .int 0])), (q1, .inl (c1, 1200, .inl (fun _ => 0))), (q2, .inl (c2, 600, .inl (fun _ => 0))), (q3, .inl (c3, 61, .inl (fun _ => 0)))]) rfl ?_
  refine jr_putF (ty := .array .boolean) (ws2 := [(q0, .inr (1, [.int 0, .int 0, .int 0, .ref q1, .ref q2, .ref q3, .null, .null, .null, .null, .null, .null, .int 0])), (q1, .inl (c1, 1200, .inl (fun _ => 0))), (q2, .inl (c2, 600, .inl (fun _ => 0))), (q3, .inl (c3, 61, .inl (fun _ => 0)))]) C hin (fun w h => List.mem_cons_of_mem _ (u_M_in w h)) t_M t_M_ok n_M (ci := 1) rfl 0 5 rfl (by decide) (List.mem_cons_of_mem _ fl_M_hits) rfl rfl (t_M_ok 5 (by decide)) rfl rfl (Nat.le_of_ble_eq_true rfl) rfl d_M_init_27 ?_
  refine jr_aload_0 C d_M_init_30 ?_
  refine jr_sipush (v := nI 600) C d_M_init_31 (by decide) ?_
  refine jr_newa (a0 := (600, .inl (fun _ => 0))) C (List.mem_cons_of_mem _ ac_boolean) rfl (fun _ => rfl) (by omega) (by decide) (by show X.2.2.2.2.2.1 + 1 + 1 + 1 + 1 ≤ _; rw [hc0]; decide) (by show X.2.2.2.2.2.2 + 1200 + 600 + 61 + 600 ≤ _; rw [hs0]; decide) d_M_init_34 (fun q4 c4 C => ?_)
  refine jr_w (ws2 := [(q0, .inr (1, [.int 0, .int 0, .int 0, .ref q1, .ref q2, .ref q3, .null, .null, .null, .null, .null, .null, .int 0])), (q1, .inl (c1, 1200, .inl (fun _ => 0))), (q2, .inl (c2, 600, .inl (fun _ => 0))), (q3, .inl (c3, 61, .inl (fun _ => 0))), (q4, .inl (c4, 600, .inl (fun _ => 0)))]) rfl ?_
  refine jr_putF (ty := .array .boolean) (ws2 := [(q0, .inr (1, [.int 0, .int 0, .int 0, .ref q1, .ref q2, .ref q3, .ref q4, .null, .null, .null, .null, .null, .int 0])), (q1, .inl (c1, 1200, .inl (fun _ => 0))), (q2, .inl (c2, 600, .inl (fun _ => 0))), (q3, .inl (c3, 61, .inl (fun _ => 0))), (q4, .inl (c4, 600, .inl (fun _ => 0)))]) C hin (fun w h => List.mem_cons_of_mem _ (u_M_in w h)) t_M t_M_ok n_M (ci := 1) rfl 0 6 rfl (by decide) (List.mem_cons_of_mem _ fl_M_chosen) rfl rfl (t_M_ok 6 (by decide)) rfl rfl (Nat.le_of_ble_eq_true rfl) rfl d_M_init_36 ?_
  refine jr_aload_0 C d_M_init_39 ?_
  refine jr_bipush (v := nI 100) C d_M_init_40 (by decide) ?_
  refine jr_newa (a0 := (100, .inl (fun _ => 0))) C (List.mem_cons_of_mem _ ac_int) rfl (fun _ => rfl) (by omega) (by decide) (by show X.2.2.2.2.2.1 + 1 + 1 + 1 + 1 + 1 ≤ _; rw [hc0]; decide) (by show X.2.2.2.2.2.2 + 1200 + 600 + 61 + 600 + 100 ≤ _; rw [hs0]; decide) d_M_init_42 (fun q5 c5 C => ?_)
  refine jr_w (ws2 := [(q0, .inr (1, [.int 0, .int 0, .int 0, .ref q1, .ref q2, .ref q3, .ref q4, .null, .null, .null, .null, .null, .int 0])), (q1, .inl (c1, 1200, .inl (fun _ => 0))), (q2, .inl (c2, 600, .inl (fun _ => 0))), (q3, .inl (c3, 61, .inl (fun _ => 0))), (q4, .inl (c4, 600, .inl (fun _ => 0))), (q5, .inl (c5, 100, .inl (fun _ => 0)))]) rfl ?_
  refine jr_putF (ty := .array .int) (ws2 := [(q0, .inr (1, [.int 0, .int 0, .int 0, .ref q1, .ref q2, .ref q3, .ref q4, .ref q5, .null, .null, .null, .null, .int 0])), (q1, .inl (c1, 1200, .inl (fun _ => 0))), (q2, .inl (c2, 600, .inl (fun _ => 0))), (q3, .inl (c3, 61, .inl (fun _ => 0))), (q4, .inl (c4, 600, .inl (fun _ => 0))), (q5, .inl (c5, 100, .inl (fun _ => 0)))]) C hin (fun w h => List.mem_cons_of_mem _ (u_M_in w h)) t_M t_M_ok n_M (ci := 1) rfl 0 7 rfl (by decide) (List.mem_cons_of_mem _ fl_M_counts) rfl rfl (t_M_ok 7 (by decide)) rfl rfl (Nat.le_of_ble_eq_true rfl) rfl d_M_init_44 ?_
  refine jr_aload_0 C d_M_init_47 ?_
  refine jr_bipush (v := nI 100) C d_M_init_48 (by decide) ?_
  refine jr_newa (a0 := (100, .inl (fun _ => 0))) C (List.mem_cons_of_mem _ ac_int) rfl (fun _ => rfl) (by omega) (by decide) (by show X.2.2.2.2.2.1 + 1 + 1 + 1 + 1 + 1 + 1 ≤ _; rw [hc0]; decide) (by show X.2.2.2.2.2.2 + 1200 + 600 + 61 + 600 + 100 + 100 ≤ _; rw [hs0]; decide) d_M_init_50 (fun q6 c6 C => ?_)
  refine jr_w (ws2 := [(q0, .inr (1, [.int 0, .int 0, .int 0, .ref q1, .ref q2, .ref q3, .ref q4, .ref q5, .null, .null, .null, .null, .int 0])), (q1, .inl (c1, 1200, .inl (fun _ => 0))), (q2, .inl (c2, 600, .inl (fun _ => 0))), (q3, .inl (c3, 61, .inl (fun _ => 0))), (q4, .inl (c4, 600, .inl (fun _ => 0))), (q5, .inl (c5, 100, .inl (fun _ => 0))), (q6, .inl (c6, 100, .inl (fun _ => 0)))]) rfl ?_
  refine jr_putF (ty := .array .int) (ws2 := [(q0, .inr (1, [.int 0, .int 0, .int 0, .ref q1, .ref q2, .ref q3, .ref q4, .ref q5, .ref q6, .null, .null, .null, .int 0])), (q1, .inl (c1, 1200, .inl (fun _ => 0))), (q2, .inl (c2, 600, .inl (fun _ => 0))), (q3, .inl (c3, 61, .inl (fun _ => 0))), (q4, .inl (c4, 600, .inl (fun _ => 0))), (q5, .inl (c5, 100, .inl (fun _ => 0))), (q6, .inl (c6, 100, .inl (fun _ => 0)))]) C hin (fun w h => List.mem_cons_of_mem _ (u_M_in w h)) t_M t_M_ok n_M (ci := 1) rfl 0 8 rfl (by decide) (List.mem_cons_of_mem _ fl_M_marks) rfl rfl (t_M_ok 8 (by decide)) rfl rfl (Nat.le_of_ble_eq_true rfl) rfl d_M_init_52 ?_
  refine jr_aload_0 C d_M_init_55 ?_
  refine jr_bipush (v := nI 6) C d_M_init_56 (by decide) ?_
  refine jr_newa (a0 := (6, .inl (fun _ => 0))) C (List.mem_cons_of_mem _ ac_boolean) rfl (fun _ => rfl) (by omega) (by decide) (by show X.2.2.2.2.2.1 + 1 + 1 + 1 + 1 + 1 + 1 + 1 ≤ _; rw [hc0]; decide) (by show X.2.2.2.2.2.2 + 1200 + 600 + 61 + 600 + 100 + 100 + 6 ≤ _; rw [hs0]; decide) d_M_init_58 (fun q7 c7 C => ?_)
  refine jr_w (ws2 := [(q0, .inr (1, [.int 0, .int 0, .int 0, .ref q1, .ref q2, .ref q3, .ref q4, .ref q5, .ref q6, .null, .null, .null, .int 0])), (q1, .inl (c1, 1200, .inl (fun _ => 0))), (q2, .inl (c2, 600, .inl (fun _ => 0))), (q3, .inl (c3, 61, .inl (fun _ => 0))), (q4, .inl (c4, 600, .inl (fun _ => 0))), (q5, .inl (c5, 100, .inl (fun _ => 0))), (q6, .inl (c6, 100, .inl (fun _ => 0))), (q7, .inl (c7, 6, .inl (fun _ => 0)))]) rfl ?_
  refine jr_putF (ty := .array .boolean) (ws2 := [(q0, .inr (1, [.int 0, .int 0, .int 0, .ref q1, .ref q2, .ref q3, .ref q4, .ref q5, .ref q6, .ref q7, .null, .null, .int 0])), (q1, .inl (c1, 1200, .inl (fun _ => 0))), (q2, .inl (c2, 600, .inl (fun _ => 0))), (q3, .inl (c3, 61, .inl (fun _ => 0))), (q4, .inl (c4, 600, .inl (fun _ => 0))), (q5, .inl (c5, 100, .inl (fun _ => 0))), (q6, .inl (c6, 100, .inl (fun _ => 0))), (q7, .inl (c7, 6, .inl (fun _ => 0)))]) C hin (fun w h => List.mem_cons_of_mem _ (u_M_in w h)) t_M t_M_ok n_M (ci := 1) rfl 0 9 rfl (by decide) (List.mem_cons_of_mem _ fl_M_any) rfl rfl (t_M_ok 9 (by decide)) rfl rfl (Nat.le_of_ble_eq_true rfl) rfl d_M_init_60 ?_
  refine jr_aload_0 C d_M_init_63 ?_
  refine jr_sipush (v := nI 366) C d_M_init_64 (by decide) ?_
  refine jr_newa (a0 := (366, .inl (fun _ => 0))) C (List.mem_cons_of_mem _ ac_boolean) rfl (fun _ => rfl) (by omega) (by decide) (by show X.2.2.2.2.2.1 + 1 + 1 + 1 + 1 + 1 + 1 + 1 + 1 ≤ _; rw [hc0]; decide) (by show X.2.2.2.2.2.2 + 1200 + 600 + 61 + 600 + 100 + 100 + 6 + 366 ≤ _; rw [hs0]; decide) d_M_init_67 (fun q8 c8 C => ?_)
  refine jr_w (ws2 := [(q0, .inr (1, [.int 0, .int 0, .int 0, .ref q1, .ref q2, .ref q3, .ref q4, .ref q5, .ref q6, .ref q7, .null, .null, .int 0])), (q1, .inl (c1, 1200, .inl (fun _ => 0))), (q2, .inl (c2, 600, .inl (fun _ => 0))), (q3, .inl (c3, 61, .inl (fun _ => 0))), (q4, .inl (c4, 600, .inl (fun _ => 0))), (q5, .inl (c5, 100, .inl (fun _ => 0))), (q6, .inl (c6, 100, .inl (fun _ => 0))), (q7, .inl (c7, 6, .inl (fun _ => 0))), (q8, .inl (c8, 366, .inl (fun _ => 0)))]) rfl ?_
  refine jr_putF (ty := .array .boolean) (ws2 := [(q0, .inr (1, [.int 0, .int 0, .int 0, .ref q1, .ref q2, .ref q3, .ref q4, .ref q5, .ref q6, .ref q7, .ref q8, .null, .int 0])), (q1, .inl (c1, 1200, .inl (fun _ => 0))), (q2, .inl (c2, 600, .inl (fun _ => 0))), (q3, .inl (c3, 61, .inl (fun _ => 0))), (q4, .inl (c4, 600, .inl (fun _ => 0))), (q5, .inl (c5, 100, .inl (fun _ => 0))), (q6, .inl (c6, 100, .inl (fun _ => 0))), (q7, .inl (c7, 6, .inl (fun _ => 0))), (q8, .inl (c8, 366, .inl (fun _ => 0)))]) C hin (fun w h => List.mem_cons_of_mem _ (u_M_in w h)) t_M t_M_ok n_M (ci := 1) rfl 0 10 rfl (by decide) (List.mem_cons_of_mem _ fl_M_one) rfl rfl (t_M_ok 10 (by decide)) rfl rfl (Nat.le_of_ble_eq_true rfl) rfl d_M_init_69 ?_
  refine jr_aload_0 C d_M_init_72 ?_
  refine jr_bipush (v := nI 61) C d_M_init_73 (by decide) ?_
  refine jr_newa (a0 := (61, .inl (fun _ => 0))) C (List.mem_cons_of_mem _ ac_boolean) rfl (fun _ => rfl) (by omega) (by decide) (by show X.2.2.2.2.2.1 + 1 + 1 + 1 + 1 + 1 + 1 + 1 + 1 + 1 ≤ _; rw [hc0]; decide) (by show X.2.2.2.2.2.2 + 1200 + 600 + 61 + 600 + 100 + 100 + 6 + 366 + 61 ≤ _; rw [hs0]; decide) d_M_init_75 (fun q9 c9 C => ?_)
  refine jr_w (ws2 := [(q0, .inr (1, [.int 0, .int 0, .int 0, .ref q1, .ref q2, .ref q3, .ref q4, .ref q5, .ref q6, .ref q7, .ref q8, .null, .int 0])), (q1, .inl (c1, 1200, .inl (fun _ => 0))), (q2, .inl (c2, 600, .inl (fun _ => 0))), (q3, .inl (c3, 61, .inl (fun _ => 0))), (q4, .inl (c4, 600, .inl (fun _ => 0))), (q5, .inl (c5, 100, .inl (fun _ => 0))), (q6, .inl (c6, 100, .inl (fun _ => 0))), (q7, .inl (c7, 6, .inl (fun _ => 0))), (q8, .inl (c8, 366, .inl (fun _ => 0))), (q9, .inl (c9, 61, .inl (fun _ => 0)))]) rfl ?_
  refine jr_putF (ty := .array .boolean) (ws2 := [(q0, .inr (1, [.int 0, .int 0, .int 0, .ref q1, .ref q2, .ref q3, .ref q4, .ref q5, .ref q6, .ref q7, .ref q8, .ref q9, .int 0])), (q1, .inl (c1, 1200, .inl (fun _ => 0))), (q2, .inl (c2, 600, .inl (fun _ => 0))), (q3, .inl (c3, 61, .inl (fun _ => 0))), (q4, .inl (c4, 600, .inl (fun _ => 0))), (q5, .inl (c5, 100, .inl (fun _ => 0))), (q6, .inl (c6, 100, .inl (fun _ => 0))), (q7, .inl (c7, 6, .inl (fun _ => 0))), (q8, .inl (c8, 366, .inl (fun _ => 0))), (q9, .inl (c9, 61, .inl (fun _ => 0)))]) C hin (fun w h => List.mem_cons_of_mem _ (u_M_in w h)) t_M t_M_ok n_M (ci := 1) rfl 0 11 rfl (by decide) (List.mem_cons_of_mem _ fl_M_left) rfl rfl (t_M_ok 11 (by decide)) rfl rfl (Nat.le_of_ble_eq_true rfl) rfl d_M_init_77 ?_
  obtain ⟨qf, eq⟩ : ∃ qf : Nat → Nat, qf = (fun i => match i with | 0 => q0 | 1 => q1 | 2 => q2 | 3 => q3 | 4 => q4 | 5 => q5 | 6 => q6 | 7 => q7 | 8 => q8 | _ => q9) := ⟨_, rfl⟩
  obtain ⟨kf, ek⟩ : ∃ kf : Nat → ClassId, kf = (fun i => match i with | 0 => c1 | 1 => c1 | 2 => c2 | 3 => c3 | 4 => c4 | 5 => c5 | 6 => c6 | 7 => c7 | 8 => c8 | _ => c9) := ⟨_, rfl⟩
  have C : fx_C (fx_up (fx_up (fx_up (fx_up (fx_up (fx_up (fx_up (fx_up (fx_up X 1 1200) 1 600) 1 61) 1 600) 1 100) 1 100) 1 6) 1 366) 1 61) l rm_M_init D cl_s (ty_M kf) b_M_init (k_M_init :: tb_l) R_M := by rw [ek]; exact C
  refine jr_w (ws2 := w_M qf kf (((fun _ => 0), (fun _ => 0), (fun _ => 0), (fun _ => 0), (fun _ => 0), (fun _ => 0), (fun _ => 0), (fun _ => 0), (fun _ => 0)), (0, 0, 0, 0))) (by rw [eq, ek]; rfl) ?_
  have e0 : qf 0 = q0 := by rw [eq]; rfl
  rw [← e0]
  refine jr_iconst (v := nI 0) C d_M_init_80 (by decide) ?_
  refine jr_istore_1 C d_M_init_81 rfl ?_
  have L := lp_up (P := fun i => ∀ b : Nat → Int32, (∀ j, j < i → b j = -1) → fx_J (fx_up (fx_up (fx_up (fx_up (fx_up (fx_up (fx_up (fx_up (fx_up X 1 1200) 1 600) 1 61) 1 600) 1 100) 1 100) 1 6) 1 366) 1 61) (w_M qf kf (((fun _ => 0), b, (fun _ => 0), (fun _ => 0), (fun _ => 0), (fun _ => 0), (fun _ => 0), (fun _ => 0), (fun _ => 0)), (0, 0, 0, 0))) 82 [some (.ref (qf 0)), some (.int (nI i))] []) 600 (fun i hi ih b hb => ?_)
  · exact L 0 (by omega) (fun _ => 0) (fun j hj => by omega)
  · refine jr_iload_1 C d_M_init_82 ?_
    refine jr_sipush (v := nI 600) C d_M_init_83 (by decide) ?_
    refine jr_N_ge (tgt := 102) C d_M_init_86 (by decide) (by omega) (by omega) (fun h => ?_) (fun h => ?_)
    · refine hR _ (qf, kf, _) _ _ rfl rfl rfl rfl (by show X.2.2.2.2.2.1 + 1 + 1 + 1 + 1 + 1 + 1 + 1 + 1 + 1 = 9; omega) (by show X.2.2.2.2.2.2 + 1200 + 600 + 61 + 600 + 100 + 100 + 6 + 366 + 61 = 3094; omega) C.2.2.2.2.2.1 d_M_init_102 ⟨e0, rfl, rfl, fun j hj => absurd hj (by show ¬ j < 0; omega), fun r f v => rfl, fun f v hf hv => hb _ (by omega), fun f v _ _ => nI_0.symm, fun r _ _ => nI_0.symm⟩
    · refine jr_aload_0 C d_M_init_89 ?_
      refine gM_broader C d_M_init_90 ?_
      refine jr_iload_1 C d_M_init_93 ?_
      refine jr_iconst (v := -1) C d_M_init_94 (by decide) ?_
      refine sM_broader C (by omega) d_M_init_95 ?_
      refine jr_incN_1 C d_M_init_96 rfl ?_
      refine jr_goto (tgt := 82) C d_M_init_99 (by decide) ?_
      refine ih h _ (fun j hj => ?_)
      by_cases e : j = i
      · rw [e]; exact pk_us
      · rw [pk_un e]; exact hb j (by omega)
end
section

theorem goodIn_r {big : List Cond} (ws : List Cond) (ps : List Nat) (hp : ws = ps.filterMap (fun i => big[i]?)) (h : ws.all goodWord = true) : GoodIn big ws := by
  intro w hw
  have h1 := List.all_eq_true.mp h w hw
  rw [hp] at hw
  obtain ⟨i, -, hi⟩ := List.mem_filterMap.mp hw
  have hm : w ∈ big := by first | exact List.mem_of_getElem? hi | exact List.getElem?_mem hi
  exact ⟨hm, good_of_word h1⟩
theorem goodIn_app {big a b : List Cond} (ha : GoodIn big a) (hb : GoodIn big b) : GoodIn big (a ++ b) := fun w h => (List.mem_append.mp h).elim (ha w) (hb w)
theorem goodIn_ca {big a b : List Cond} {c : Cond} (ha : GoodIn big (c :: a)) (hb : GoodIn big b) : GoodIn big (c :: (a ++ b)) := fun w h => (List.mem_cons.mp h).elim (fun e => ha w (List.mem_cons.mpr (Or.inl e))) (fun h => (List.mem_append.mp h).elim (fun h => ha w (List.mem_cons.mpr (Or.inr h))) (hb w))
theorem goodIn_sub {big ws : List Cond} (hm : ∀ w ∈ ws, w ∈ big) (h : ws.all goodWord = true) : GoodIn big ws := fun w hw => ⟨hm w hw, good_of_word (List.all_eq_true.mp h w hw)⟩



section VXA


def vx_T (XC : String → State → State → Prop) (st : State) (q : Addr) (t : State) (mc ms : Nat) (free : Addr → Prop) : Prop :=
  ∃ (E : String) (ce : Cell) (L : List Loc), XC E st t ∧ t.heap[q]? = some ce ∧ ce.vm = .none ∧ st.vm.findClass E = some ce.cls ∧ st.WarmedH t.vm ∧ st.sameButNew ({ t with vm := st.vm } : State) L mc ms ∧ ∀ z ∈ L, free z.base
def vx_Q (Qc : Array Value → State → Outcome → State → Prop) (XC : String → State → State → Prop) (mc ms : Nat) (free : Addr → Prop) : Array Value → State → Outcome → State → Prop := fun a st o t =>
  (Qc a st o t ∧ ∃ L, FrameEnd st o t L mc ms ∧ ∀ q ∈ L, free q.base) ∨ ∃ q, o = .threw q ∧ vx_T XC st q t mc ms free

def vx_Met (l : Launch) (y : MethodName) (ws : List Cond) (rm : Room) (Pc : Array Value → State → Prop) (Qc : Array Value → State → Outcome → State → Prop) (XC : String → State → State → Prop) (mc ms : Nat) (free : Addr → Prop) : Prop :=
  MetFree l y (headSpec ws rm) Pc (fun _ _ _ _ _ => True) (vx_Q Qc XC mc ms free)
def vx_Post (XC : String → State → State → Prop) (mc ms : Nat) (free : Addr → Prop) : Pt → Array Value → Addr → Pt → Prop := fun A a q B =>
  ∃ (g : JFrame) (mk : MethodId) (t : State) (L : List Loc) (E : String) (ce : Cell), B.U.heap = t.heap ∧ B.U.vm = t.vm ∧ XC E (A.U.calling g mk a) t ∧ t.heap[q]? = some ce ∧ ce.vm = .none ∧ A.U.vm.findClass E = some ce.cls ∧ B.locs = A.locs ++ L ∧ (∀ z ∈ L, free z.base) ∧ B.cells = A.cells + mc ∧ B.slots = A.slots + ms
def vx_Back (l : Launch) (R : Room) (p : Program) (e : Env) (below : List Frame) (s : State) (sargs : Array Value) (y : MethodName) (len W9 : Nat)
    (Pre : Pt → Array Value → Prop) (Post : Pt → Array Value → Option Value → Pt → Prop) (PostX : Pt → Array Value → Addr → Pt → Prop) : Prop :=
  ∀ (m : MethodId) (meth : Method) (c : Code) (A : Pt) (g : JFrame) (ig : Instr) (mk : MethodId) (a : Array Value),
    Stand p l e R s m sargs below meth c A.U A.locs A.cells A.slots → g.method = m → g.locals.size = c.maxLocals → decode c.code g.pc = .ok (ig, len) →
    2 * g.monitorRoom + (g.stack.map fun v => v.category).sum ≤ W9 → A.U.methodNamed? y = some mk → Pre A a →
    (∃ (v : Option Value) (B : Pt), Stand p l e R s m sargs below meth c B.U B.locs B.cells B.slots ∧ Post A a v B ∧
      Steps p.tables e below (doInvoke e (A.U.setTop g) [] mk a).1 (B.U.setTop { g with pc := g.pc + len, stack := v.toList ++ g.stack })) ∨
    (∃ (q : Addr) (B : Pt), Stand p l e R s m sargs below meth c B.U B.locs B.cells B.slots ∧ PostX A a q B ∧
      Steps p.tables e below (doInvoke e (A.U.setTop g) [] mk a).1 ((B.U.setTop g).pushFrame (.throwing q)))
section Payer
variable {l : Launch} {R : Room} {p : Program} {e : Env} {below : List Frame} {s : State} {sargs : Array Value} {y : MethodName} {len W9 : Nat}
theorem vx_back {ws : List Cond} {rm : Room} {Pc : Array Value → State → Prop} {Qc : Array Value → State → Outcome → State → Prop} {XC : String → State → State → Prop} {mc ms : Nat} {free : Addr → Prop} {bytes : ByteArray} {maxL : Nat} {ret : Option FieldType}
    (hM : vx_Met l y ws rm Pc Qc XC mc ms free) (hblind : FrameBlind Pc) (hrc : rm.cells = mc) (hrs : rm.slots = ms)
    (hframes : rm.frames + 1 ≤ R.frames) (hlocals : W9 + (maxL + 11) + rm.locals ≤ R.locals)
    (hws : ∀ w ∈ ws, ∀ a' U, s.WarmedH U.vm → w.before a' U = true) (hcode : Cond.code y bytes maxL ret ∈ ws) (hinit : ∀ a' U, s.WarmedH U.vm → (Cond.initialized y.cls).before a' U = true) :
    vx_Back l R p e below s sargs y len W9 (PreOf R mc ms Pc) (PostOf Qc mc ms free) (vx_Post XC mc ms free) := by
  intro m meth c A g ig mk a X hg hsize hdg hW hn hp
  have h1 : (headSpec ws rm).pre.before a A.U = true := atoms_intro fun w hw => hws w hw _ _ X.warmed
  have h2 : (Cond.code y bytes maxL ret).before a A.U = true := hws _ hcode _ _ X.warmed
  have h3 : (Cond.initialized y.cls).before a A.U = true := hinit _ _ X.warmed
  have h4 : A.cells + (headSpec ws rm).room.cells ≤ R.cells := by rw [show (headSpec ws rm).room.cells = mc from hrc]; exact hp.1
  have h5 : A.slots + (headSpec ws rm).room.slots ≤ R.slots := by rw [show (headSpec ws rm).room.slots = ms from hrs]; exact hp.2.1
  have hPc : Pc a (A.U.calling g mk a) := hblind _ _ _ _ hp.2.2
  obtain ⟨U, Ls, c0, s0⟩ := A
  dsimp only [Pt.U, Pt.locs, Pt.cells, Pt.slots] at h1 h2 h3 h4 h5 X hn hPc ⊢
  obtain ⟨methY, cY, hmY, hcY, -, hlY, -, -, -, -⟩ := Cond.code_spec hn h2
  obtain ⟨kY, hkY, -⟩ := className_of_methodNamed hn
  have hinitY : kY.init = .initialized := Cond.initialized_spec (findClass_of_methodNamed hn) hkY h3
  have h : At U g.method c below := by rw [hg]; exact X.here
  have hlocals9 : W9 + (maxL + 11) + (headSpec ws rm).room.locals ≤ R.locals := hlocals
  have happ : (headSpec ws rm).appliesLoose y e.platform (U.calling g mk a) = true :=
    Spec.appliesLoose_calling (g := g) h hdg hn hkY hinitY
      (X.room_calling (g := g) (R' := (headSpec ws rm).room) hsize hmY hcY hframes (by rw [hlY]; omega) h4 h5) h1
  obtain ⟨mid, hmid⟩ := h.above
  have hfr : (U.setTop g).frames = (.java g :: mid) ++ below := by rw [State.frames_setTop' g h.top, hmid]; rfl
  obtain ⟨o, s₂, hsteps, -, hend, hq⟩ := Steps.callFree hM p X.admits X.cas X.clock (acts := []) hfr happ hPc trivial
  have hq' : vx_Q Qc XC mc ms free a (U.calling g mk a) o s₂ := hq
  rw [State.frames_setTop' g h.top] at hend
  obtain ⟨g₀, hg0⟩ := Option.isSome_iff_exists.mp h.top
  obtain ⟨r, hr⟩ := State.topJava?_eq_some.mp hg0
  have hr' : (({ U with heap := s₂.heap, slotsUsed := s₂.slotsUsed } : State).setVm s₂.vm).frames = .java g₀ :: r := hr
  rcases hq' with ⟨hqc, L, hfe, hL⟩ | ⟨q, rfl, E, ce, L, hx, hce, hcv, hcl, hW₂, hsm, hL⟩
  · obtain ⟨⟨v, rfl⟩, hW₂, e2, q2, q3, q4, q5, q6⟩ := id hfe
    have e3 : s₂ = ({ (U.calling g mk a).setFrames s₂.frames with heap := s₂.heap, slotsUsed := s₂.slotsUsed } : State).setVm s₂.vm := by
      have : s₂ = ({ s₂ with vm := (U.calling g mk a).vm } : State).setVm s₂.vm := rfl
      rw [e2] at this
      exact this
    obtain ⟨c₂, i₂, len₂, hc₂, hd₂, hf₂⟩ := hend
    have hW' : U.WarmedH s₂.vm := hW₂
    have hcc : c₂ = c := by
      have h1 : s₂.code? g.method = U.code? g.method := by
        rw [State.code?_eq, State.code?_eq, hW'.alike.method?]
      exact Option.some.inj (hc₂.symm.trans (h1.trans h.code))
    subst hcc
    have hlen : len₂ = len := by rw [hdg] at hd₂; cases hd₂; rfl
    subst hlen
    have hs₂ : s₂ = (({ U with heap := s₂.heap, slotsUsed := s₂.slotsUsed } : State).setVm s₂.vm).setTop { g with pc := g.pc + len₂, stack := v.toList ++ g.stack } := by
      refine e3.trans ?_
      rw [hf₂, State.calling_eq h.top, State.setFrames_setFrames, State.setTop_of_frames _ hr', hr]
      rfl
    have hsame : U.sameButNew ({ U with heap := s₂.heap, slotsUsed := s₂.slotsUsed } : State) L mc ms := by
      refine ⟨?_, q2, q3, q4, q5, q6⟩
      obtain ⟨t, ht, -⟩ := State.frames_cons hr
      show ({ U with heap := s₂.heap, slotsUsed := s₂.slotsUsed } : State) = { U.setFrames U.frames with heap := s₂.heap, slotsUsed := s₂.slotsUsed }
      rw [State.setFrames_self ht]
    subst hg
    refine Or.inl ⟨v, ⟨(({ U with heap := s₂.heap, slotsUsed := s₂.slotsUsed } : State).setVm s₂.vm), Ls ++ L, c0 + mc, s0 + ms⟩,
      ⟨X.admits, X.cas, X.clock, X.frames, X.room, X.hears, X.method, X.code, (X.here.setHeapUsed s₂.heap s₂.slotsUsed).setVm hW'.alike, X.tail, State.WarmedH.trans X.warmed hW', X.limits, X.bytes, X.same.trans (hsame.setVm s.vm)⟩,
      ⟨g, mk, s₂, L, rfl, rfl, hqc, rfl, hL, rfl, rfl⟩, ?_⟩
    show Steps p.tables e below _ ((({ U with heap := s₂.heap, slotsUsed := s₂.slotsUsed } : State).setVm s₂.vm).setTop { g with pc := g.pc + len₂, stack := v.toList ++ g.stack })
    rw [← hs₂]
    exact hsteps
  · obtain ⟨e2, q2, q3, q4, q5, q6⟩ := id hsm
    have e3 : s₂ = ({ (U.calling g mk a).setFrames s₂.frames with heap := s₂.heap, slotsUsed := s₂.slotsUsed } : State).setVm s₂.vm := by
      have : s₂ = ({ s₂ with vm := (U.calling g mk a).vm } : State).setVm s₂.vm := rfl
      rw [e2] at this
      exact this
    have hf₂ : s₂.frames = .throwing q :: .java g :: U.frames.tail := hend
    have hW' : U.WarmedH s₂.vm := hW₂
    have hs₂ : s₂ = ((({ U with heap := s₂.heap, slotsUsed := s₂.slotsUsed } : State).setVm s₂.vm).setTop g).pushFrame (.throwing q) := by
      refine e3.trans ?_
      rw [hf₂, State.calling_eq h.top, State.setFrames_setFrames, State.pushFrame, State.frames_setTop _ hr', State.setTop_of_frames _ hr', State.setFrames_setFrames, hr]
      rfl
    have hsame : U.sameButNew ({ U with heap := s₂.heap, slotsUsed := s₂.slotsUsed } : State) L mc ms := by
      refine ⟨?_, q2, q3, q4, q5, q6⟩
      obtain ⟨t, ht, -⟩ := State.frames_cons hr
      show ({ U with heap := s₂.heap, slotsUsed := s₂.slotsUsed } : State) = { U.setFrames U.frames with heap := s₂.heap, slotsUsed := s₂.slotsUsed }
      rw [State.setFrames_self ht]
    subst hg
    refine Or.inr ⟨q, ⟨(({ U with heap := s₂.heap, slotsUsed := s₂.slotsUsed } : State).setVm s₂.vm), Ls ++ L, c0 + mc, s0 + ms⟩,
      ⟨X.admits, X.cas, X.clock, X.frames, X.room, X.hears, X.method, X.code, (X.here.setHeapUsed s₂.heap s₂.slotsUsed).setVm hW'.alike, X.tail, State.WarmedH.trans X.warmed hW', X.limits, X.bytes, X.same.trans (hsame.setVm s.vm)⟩,
      ⟨g, mk, s₂, L, E, ce, rfl, rfl, hx, hce, hcv, hcl, rfl, hL, rfl, rfl⟩, ?_⟩
    show Steps p.tables e below _ (((({ U with heap := s₂.heap, slotsUsed := s₂.slotsUsed } : State).setVm s₂.vm).setTop g).pushFrame (.throwing q))
    rw [← hs₂]
    exact hsteps
end Payer
section Calls
variable {p : Program} {l : Launch} {e : Env} {R : Room} {s : State} {m : MethodId} {args : Array Value} {below : List Frame} {meth : Method} {c : Code} {T : State} {locs : List Loc} {cells slots : Nat}
theorem vx_callV (X : Stand p l e R s m args below meth c T locs cells slots) (hexec : p.tables.exec = Jvm.exec) {own C : String} {index : Nat} {y : MethodName} {bytes : ByteArray} {maxL : Nat} {ret : Option FieldType}
    (hown : s.vm.findClass own = some m.cls) (hlink : (Cond.methodLink own index y).before args s = true) (hinst : (Cond.instanceMethod y).before args s = true) (hsel : (Cond.selects C y y).before args s = true)
    (hcode : (Cond.code y bytes maxL ret).before args s = true) (hy : y.cls ≠ "java/lang/invoke/MethodHandle" ∧ y.cls ≠ "java/lang/invoke/VarHandle")
    {W9 : Nat} {Pre : Pt → Array Value → Prop} {Post : Pt → Array Value → Option Value → Pt → Prop} {PostX : Pt → Array Value → Addr → Pt → Prop} (hK : vx_Back l R p e below s args y 3 W9 Pre Post PostX)
    {b : Addr} {cellB : Cell} (hcell : T.heap[b]? = some cellB) (hobj : cellB.vm.isStatics = false) (hcls : s.vm.findClass C = some cellB.cls)
    {g : JFrame} (hg : g.method = m) (hsize : g.locals.size = c.maxLocals) {argsL rest : List Value} (hlen : ∀ sig, parseMethodDescriptor y.desc = some sig → argsL.length = sig.parameters.length)
    (hstack : g.stack = argsL.reverse ++ .ref b :: rest) (hW : 2 * g.monitorRoom + (rest.map fun v => v.category).sum ≤ W9) (hdg : decode c.code g.pc = .ok (.invokevirtual index, 3))
    (hpre : ∀ vm₁, s.WarmedH vm₁ → Pre ⟨T.setVm vm₁, locs, cells, slots⟩ (Value.ref b :: argsL).toArray) :
    (∃ (v : Option Value) (vm₁ : Vm) (B : Pt), s.WarmedH vm₁ ∧ Stand p l e R s m args below meth c B.U B.locs B.cells B.slots ∧ Post ⟨T.setVm vm₁, locs, cells, slots⟩ (Value.ref b :: argsL).toArray v B ∧
      ∀ target, Steps p.tables e below (B.U.setTop { g with pc := g.pc + 3, stack := v.toList ++ rest }) target → Steps p.tables e below (T.setTop g) target) ∨
    (∃ (q : Addr) (vm₁ : Vm) (B : Pt), s.WarmedH vm₁ ∧ Stand p l e R s m args below meth c B.U B.locs B.cells B.slots ∧ PostX ⟨T.setVm vm₁, locs, cells, slots⟩ (Value.ref b :: argsL).toArray q B ∧
      Steps p.tables e below (T.setTop g) ((B.U.setTop { g with stack := rest }).pushFrame (.throwing q))) := by
  obtain ⟨mk, methM, hnamed, hmethM, hstM, habM⟩ := Cond.instanceMethod_spec hinst
  obtain ⟨methM', cM, hmethM', -, -, -, -, -, -, hsigM⟩ := Cond.code_spec hnamed hcode
  cases hmethM.symm.trans hmethM'
  obtain ⟨c2, r2, m2, q1, q2, q3, q4, kP, hkP, hkPi⟩ := Cond.selects_spec hsel
  cases hcls.symm.trans q1
  cases (State.methodFound?_of_named hnamed hy).symm.trans q2
  cases hnamed.symm.trans q3
  have hselP : selectMethod e.platform s.vm cellB.cls mk = .method mk := by rw [Launch.admits_selectMethod X.admits]; exact q4
  obtain ⟨vm₁, X₁, hstep₁⟩ := X.invokevirtual hexec hown hlink hnamed hmethM hstM hkP hkPi hy (a := b) (cell := cellB) hcell
    (fun z h => by rw [h] at hobj; cases hobj) hselP hmethM habM hkP hkPi (g := g) hg (argsL := argsL) (rest := rest) (hlen _ hsigM) hstack hdg
  rcases hK m meth c ⟨T.setVm vm₁, locs, cells, slots⟩ { g with stack := rest } (.invokevirtual index) mk (Value.ref b :: argsL).toArray X₁ hg hsize hdg hW (X₁.named hnamed) (hpre vm₁ X₁.warmed) with ⟨v, B, X', hpost, hsteps⟩ | ⟨q, B, X', hpost, hsteps⟩
  · exact Or.inl ⟨v, vm₁, B, X₁.warmed, X', hpost, fun target h => hstep₁ _ fun acts => by rw [doInvoke_state]; exact hsteps.trans h⟩
  · exact Or.inr ⟨q, vm₁, B, X₁.warmed, X', hpost, hstep₁ _ fun acts => by rw [doInvoke_state]; exact hsteps⟩
theorem vx_callS (X : Stand p l e R s m args below meth c T locs cells slots) (hexec : p.tables.exec = Jvm.exec) {own : String} {index : Nat} {y : MethodName} {bytes : ByteArray} {maxL : Nat} {ret : Option FieldType}
    (hown : s.vm.findClass own = some m.cls) (hlink : (Cond.methodLink own index y).before args s = true) (hstat : (Cond.static y).before args s = true) (hinit : (Cond.initialized y.cls).before args s = true)
    (hcode : (Cond.code y bytes maxL ret).before args s = true) (hy : y.cls ≠ "java/lang/invoke/MethodHandle" ∧ y.cls ≠ "java/lang/invoke/VarHandle")
    {W9 : Nat} {Pre : Pt → Array Value → Prop} {Post : Pt → Array Value → Option Value → Pt → Prop} {PostX : Pt → Array Value → Addr → Pt → Prop} (hK : vx_Back l R p e below s args y 3 W9 Pre Post PostX)
    {g : JFrame} (hg : g.method = m) (hsize : g.locals.size = c.maxLocals) {argsL rest : List Value} (hlen : ∀ sig, parseMethodDescriptor y.desc = some sig → argsL.length = sig.parameters.length)
    (hstack : g.stack = argsL.reverse ++ rest) (hW : 2 * g.monitorRoom + (rest.map fun v => v.category).sum ≤ W9) (hdg : decode c.code g.pc = .ok (.invokestatic index, 3))
    (hpre : ∀ vm₁, s.WarmedH vm₁ → Pre ⟨T.setVm vm₁, locs, cells, slots⟩ argsL.toArray) :
    (∃ (v : Option Value) (vm₁ : Vm) (B : Pt), s.WarmedH vm₁ ∧ Stand p l e R s m args below meth c B.U B.locs B.cells B.slots ∧ Post ⟨T.setVm vm₁, locs, cells, slots⟩ argsL.toArray v B ∧
      ∀ target, Steps p.tables e below (B.U.setTop { g with pc := g.pc + 3, stack := v.toList ++ rest }) target → Steps p.tables e below (T.setTop g) target) ∨
    (∃ (q : Addr) (vm₁ : Vm) (B : Pt), s.WarmedH vm₁ ∧ Stand p l e R s m args below meth c B.U B.locs B.cells B.slots ∧ PostX ⟨T.setVm vm₁, locs, cells, slots⟩ argsL.toArray q B ∧
      Steps p.tables e below (T.setTop g) ((B.U.setTop { g with stack := rest }).pushFrame (.throwing q))) := by
  obtain ⟨mk, hnamed⟩ := Cond.code_named hcode
  obtain ⟨methM, cM, hmethM, -, -, -, -, -, -, hsigM⟩ := Cond.code_spec hnamed hcode
  have hstatic : methM.isStatic = true := Cond.static_spec hnamed hmethM hstat
  obtain ⟨kP, hkP, -⟩ := className_of_methodNamed hnamed
  have hinitP : kP.init = .initialized := Cond.initialized_spec (findClass_of_methodNamed hnamed) hkP hinit
  obtain ⟨vm₁, X₁, hstep₁⟩ := X.invokestatic hexec hown hlink hnamed hmethM hstatic hkP hinitP hy (g := g) hg (argsL := argsL) (rest := rest) (hlen _ hsigM) hstack hdg
  rcases hK m meth c ⟨T.setVm vm₁, locs, cells, slots⟩ { g with stack := rest } (.invokestatic index) mk argsL.toArray X₁ hg hsize hdg hW (X₁.named hnamed) (hpre vm₁ X₁.warmed) with ⟨v, B, X', hpost, hsteps⟩ | ⟨q, B, X', hpost, hsteps⟩
  · exact Or.inl ⟨v, vm₁, B, X₁.warmed, X', hpost, fun target h => hstep₁ _ fun acts => by rw [doInvoke_state]; exact hsteps.trans h⟩
  · exact Or.inr ⟨q, vm₁, B, X₁.warmed, X', hpost, hstep₁ _ fun acts => by rw [doInvoke_state]; exact hsteps⟩
end Calls
theorem vx_cls {s : State} {T : State} {vm₁ : Vm} {E : String} {k : ClassId} (hW : s.WarmedH vm₁) (h : (T.setVm vm₁).vm.findClass E = some k) : s.vm.findClass E = some k := by
  have h1 : vm₁.findClass E = some k := h
  rw [hW.alike.findClass] at h1
  exact h1

def vx_W (p : Program) (l : Launch) (e : Env) (R : Room) (s : State) (m : MethodId) (args : Array Value) (below : List Frame) (meth : Method) (c : Code) (H : Heap) (locs : List Loc) (cells slots : Nat) (Q : State → Prop) (g : JFrame) (q : Addr) : Prop :=
  ∀ T : State, T.heap = H → Stand p l e R s m args below meth c T locs cells slots → ∃ t, Steps p.tables e below ((T.setTop g).pushFrame (.throwing q)) t ∧ Q t
def vx_Run (p : Program) (l : Launch) (e : Env) (R : Room) (s : State) (m : MethodId) (args : Array Value) (below : List Frame) (meth : Method) (c : Code) (H : Heap) (locs : List Loc) (cells slots mc ms : Nat) (g : JFrame) (rest : List Value) (Qa : State → Outcome → State → Prop) (XC : String → State → State → Prop) (free : Addr → Prop) : Prop :=
  ∀ T : State, T.heap = H → Stand p l e R s m args below meth c T locs cells slots →
    (∃ (v : Option Value) (st₀ t T' : State) (L : List Loc), st₀.heap = H ∧ Stand p l e R s m args below meth c T' (locs ++ L) (cells + mc) (slots + ms) ∧ (∀ q ∈ L, free q.base) ∧ T'.heap = t.heap ∧ T'.vm = t.vm ∧ Qa st₀ (.returned v) t ∧
      Goes p e below T g T' { g with pc := g.pc + 3, stack := v.toList ++ rest }) ∨
    (∃ (q : Addr) (st₀ t T' : State) (L : List Loc) (E : String) (ce : Cell), st₀.heap = H ∧ Stand p l e R s m args below meth c T' (locs ++ L) (cells + mc) (slots + ms) ∧ (∀ z ∈ L, free z.base) ∧ T'.heap = t.heap ∧ T'.vm = t.vm ∧ XC E st₀ t ∧ t.heap[q]? = some ce ∧ ce.vm = .none ∧ s.vm.findClass E = some ce.cls ∧
      Steps p.tables e below (T.setTop g) ((T'.setTop { g with stack := rest }).pushFrame (.throwing q)))
def vx_X {S : Type} (px : S → Prop) (B : String → S → State → Prop) (A : Nat → Prop) : String → State → State → Prop := fun E st t => ∃ u : S, px u ∧ B E u t ∧ va_F A st t
section Runs
variable {p : Program} {l : Launch} {e : Env} {R : Room} {s : State} {m : MethodId} {args : Array Value} {below : List Frame} {meth : Method} {c : Code} {H : Heap} {locs : List Loc} {cells slots : Nat}
variable {y : MethodName} {bytes cc : ByteArray} {maxL nL mc ms n index : Nat} {ret : Option FieldType} {ws : List Cond} {rm : Room} {Pc : Array Value → State → Prop} {Qc : Array Value → State → Outcome → State → Prop} {XC : String → State → State → Prop} {free : Addr → Prop} {Ts : List Cond} {own C : String} {b : Addr} {As rest : List Value} {g : JFrame}
theorem vx_callBack (cb : CallB R s args own index y bytes maxL ret ws rm mc ms n) (hM : vx_Met l y ws rm Pc Qc XC mc ms free) (hbl : FrameBlind Pc) : vx_Back l R p e below s args y 3 8 (PreOf R mc ms Pc) (PostOf Qc mc ms free) (vx_Post XC mc ms free) := by
  obtain ⟨hrc, hrs, hfr, hlo, hws, hcw, -, hini, -⟩ := cb
  exact vx_back (bytes := bytes) (maxL := maxL) (ret := ret) hM hbl hrc hrs hfr hlo hws hcw (fun a' U hW => word_at hW (Or.inl (by first | rfl | simp [Cond.onTables, Cond.keeps, Cond.steady])) hini)
theorem vx_runV (S : CallFix p m c cc nL s args Ts own) (hM : vx_Met l y ws rm Pc Qc XC mc ms free) (cw : CallW R s args own C index y bytes maxL ret ws rm mc ms n) (hp : PreV s H C b Pc As)
    (hg : g.method = m) (hn : As.length = n) (hsize : g.locals.size = nL) (hstack : g.stack = As.reverse ++ .ref b :: rest) (hW : 2 * g.monitorRoom + (rest.map fun v => v.category).sum ≤ 8) (hdg : decode cc g.pc = .ok (.invokevirtual index, 3)) (hf : cells + mc ≤ R.cells ∧ slots + ms ≤ R.slots) :
    vx_Run p l e R s m args below meth c H locs cells slots mc ms g rest (Qc (Value.ref b :: As).toArray) XC free := by
  have hK : vx_Back l R p e below s args y 3 8 (PreOf R mc ms Pc) (PostOf Qc mc ms free) (vx_Post XC mc ms free) := vx_callBack cw.1 hM hp.1
  obtain ⟨⟨-, -, -, -, -, -, hcode, -, hy, hlen, hl⟩, hin, hse⟩ := cw
  obtain ⟨hx, hb, hml, ho, -⟩ := S
  obtain ⟨-, ⟨cellB, hcB, hoB, hclB⟩, hPc⟩ := hp
  intro T hT X
  rcases vx_callV X hx (C := C) (bytes := bytes) (maxL := maxL) (ret := ret) ho hl hin hse hcode hy hK (by rw [hT]; exact hcB) hoB hclB hg (hsize.trans hml.symm) (argsL := As) (rest := rest) (fun sig h => hn.trans (hlen sig h)) hstack hW (by rw [hb]; exact hdg)
    (fun vm₁ hW₁ => ⟨hf.1, hf.2, hPc (T.setVm vm₁) hT hW₁⟩) with ⟨v, vm₁, ⟨U', l2, c2, s2⟩, hW₁, X', ⟨g', mk, t, L, e1, e2, hq, h1, hL, h2, h3⟩, st⟩ | ⟨q, vm₁, ⟨U', l2, c2, s2⟩, hW₁, X', ⟨g', mk, t, L, E, ce, e1, e2, hq, hce, hcv, hcl, h1, hL, h2, h3⟩, st⟩
  · dsimp only [Pt.U, Pt.locs, Pt.cells, Pt.slots] at X' e1 e2 h1 h2 h3 st
    subst h1; subst h2; subst h3
    exact Or.inl ⟨v, (T.setVm vm₁).calling g' mk (Value.ref b :: As).toArray, t, U', L, hT, X', hL, e1, e2, hq, st⟩
  · dsimp only [Pt.U, Pt.locs, Pt.cells, Pt.slots] at X' e1 e2 h1 h2 h3 st hcl
    subst h1; subst h2; subst h3
    exact Or.inr ⟨q, (T.setVm vm₁).calling g' mk (Value.ref b :: As).toArray, t, U', L, E, ce, hT, X', hL, e1, e2, hq, hce, hcv, vx_cls hW₁ hcl, st⟩
theorem vx_runS (S : CallFix p m c cc nL s args Ts own) (hM : vx_Met l y ws rm Pc Qc XC mc ms free) (cw : CallB R s args own index y bytes maxL ret ws rm mc ms n ∧ (Cond.static y).before args s = true) (hp : PreS s H Pc As)
    (hg : g.method = m) (hn : As.length = n) (hsize : g.locals.size = nL) (hstack : g.stack = As.reverse ++ rest) (hW : 2 * g.monitorRoom + (rest.map fun v => v.category).sum ≤ 8) (hdg : decode cc g.pc = .ok (.invokestatic index, 3)) (hf : cells + mc ≤ R.cells ∧ slots + ms ≤ R.slots) :
    vx_Run p l e R s m args below meth c H locs cells slots mc ms g rest (Qc As.toArray) XC free := by
  have hK : vx_Back l R p e below s args y 3 8 (PreOf R mc ms Pc) (PostOf Qc mc ms free) (vx_Post XC mc ms free) := vx_callBack cw.1 hM hp.1
  obtain ⟨⟨-, -, -, -, -, -, hcode, hini, hy, hlen, hl⟩, hstt⟩ := cw
  obtain ⟨hx, hb, hml, ho, -⟩ := S
  intro T hT X
  rcases vx_callS X hx (bytes := bytes) (maxL := maxL) (ret := ret) ho hl hstt hini hcode hy hK hg (hsize.trans hml.symm) (argsL := As) (rest := rest) (fun sig h => hn.trans (hlen sig h)) hstack hW (by rw [hb]; exact hdg)
    (fun vm₁ hW₁ => ⟨hf.1, hf.2, hp.2 (T.setVm vm₁) hT hW₁⟩) with ⟨v, vm₁, ⟨U', l2, c2, s2⟩, hW₁, X', ⟨g', mk, t, L, e1, e2, hq, h1, hL, h2, h3⟩, st⟩ | ⟨q, vm₁, ⟨U', l2, c2, s2⟩, hW₁, X', ⟨g', mk, t, L, E, ce, e1, e2, hq, hce, hcv, hcl, h1, hL, h2, h3⟩, st⟩
  · dsimp only [Pt.U, Pt.locs, Pt.cells, Pt.slots] at X' e1 e2 h1 h2 h3 st
    subst h1; subst h2; subst h3
    exact Or.inl ⟨v, (T.setVm vm₁).calling g' mk As.toArray, t, U', L, hT, X', hL, e1, e2, hq, st⟩
  · dsimp only [Pt.U, Pt.locs, Pt.cells, Pt.slots] at X' e1 e2 h1 h2 h3 st hcl
    subst h1; subst h2; subst h3
    exact Or.inr ⟨q, (T.setVm vm₁).calling g' mk As.toArray, t, U', L, E, ce, hT, X', hL, e1, e2, hq, hce, hcv, vx_cls hW₁ hcl, st⟩
end Runs
section Rows
variable {p : Program} {l : Launch} {e : Env} {R : Room} {s : State} {m : MethodId} {args : Array Value} {below : List Frame} {meth : Method} {c : Code} {H : Heap} {locs : List Loc} {cells slots : Nat} {Q : State → Prop}
variable {mc ms : Nat} {free : Addr → Prop} {A0 A1 : Nat → Prop} {H0 : Heap} {a : Array Value} {pc : Nat} {ls : Array Slot} {st0 rest : List Value}
theorem vx_keep {st₀ t T' : State} {L : List Loc} (h0 : st₀.heap = H) (e1 : T'.heap = t.heap) (hS : va_S A0 H0 H locs) (hA : ∀ q, q < H.size → A1 q → A0 q) (hf : ∀ q, free q → A0 q) (hL : ∀ q ∈ L, free q.base) (hF : va_F A1 st₀ t) :
    H.size ≤ T'.heap.size ∧ (∀ q : Nat, q < H.size → ¬ A1 q → T'.heap[q]? = H[q]?) ∧ va_S A0 H0 T'.heap (locs ++ L) := by
  obtain ⟨hz, hk⟩ := hF
  rw [h0] at hz hk
  exact ⟨by rw [e1]; exact hz, fun q h1 h2 => by rw [e1]; exact hk q h1 h2,
    ⟨Nat.le_trans hS.1 (by rw [e1]; exact hz), fun q h1 h2 => by rw [e1, hk q (Nat.lt_of_lt_of_le h1 hS.1) (fun z => h2 (hA q (Nat.lt_of_lt_of_le h1 hS.1) z))]; exact hS.2.1 q h1 h2, fun q hq => by
      rcases List.mem_append.mp hq with h | h
      · exact hS.2.2 q h
      · exact hf _ (hL q h)⟩⟩
theorem vx_calli {S SX : Type} {post : Int32 → S → Prop} {px : SX → Prop} {B : S → State → Prop} {BX : String → SX → State → Prop} {AX : Nat → Prop} (hr : vx_Run p l e R s m args below meth c H locs cells slots mc ms (F0 m pc ls st0) rest (va_Qi post B A1 a) (vx_X px BX AX) free) (hS : va_S A0 H0 H locs) (hA : ∀ q, q < H.size → A1 q → A0 q) (hf : ∀ q, free q → A0 q) (hAX : ∀ q, q < H.size → AX q → A0 q)
    (kx : ∀ (E : String) (ce : Cell) (q9 : Addr) (u : SX) (t : State) (H1 : Heap) (locs1 : List Loc), t.heap = H1 → s.vm.Alike t.vm → px u → BX E u t → H.size ≤ H1.size → (∀ q : Nat, q < H.size → ¬ AX q → H1[q]? = H[q]?) → va_S A0 H0 H1 locs1 → H1[q9]? = some ce → ce.vm = .none → s.vm.findClass E = some ce.cls → vx_W p l e R s m args below meth c H1 locs1 (cells + mc) (slots + ms) Q (F0 m pc ls rest) q9)
    (kk : ∀ (r : Int32) (u : S) (t : State) (H1 : Heap) (locs1 : List Loc), t.heap = H1 → s.vm.Alike t.vm → post r u → B u t → H.size ≤ H1.size → (∀ q : Nat, q < H.size → ¬ A1 q → H1[q]? = H[q]?) → va_S A0 H0 H1 locs1 → W p l e R s m args below meth c H1 locs1 (cells + mc) (slots + ms) Q (F0 m (pc + 3) ls (.int r :: rest))) : W p l e R s m args below meth c H locs cells slots Q (F0 m pc ls st0) := by
  intro T hT X
  rcases hr T hT X with ⟨v, st₀, t, T', L, h0, X', hL, e1, e2, ⟨⟨r, u, hv, hp, hb⟩, hF⟩, st⟩ | ⟨q, st₀, t, T', L, E, ce, h0, X', hL, e1, e2, ⟨u, hp, hb, hF⟩, hce, hcv, hcl, st⟩
  · cases hv
    obtain ⟨k1, k2, k3⟩ := vx_keep h0 e1 hS hA hf hL hF
    obtain ⟨t2, a1, b1⟩ := kk r u t T'.heap (locs ++ L) e1.symm (by rw [← e2]; exact X'.warmed.alike) hp hb k1 k2 k3 T' rfl X'
    exact ⟨t2, st t2 a1, b1⟩
  · obtain ⟨k1, k2, k3⟩ := vx_keep h0 e1 hS hAX hf hL hF
    obtain ⟨t2, a1, b1⟩ := kx E ce q u t T'.heap (locs ++ L) e1.symm (by rw [← e2]; exact X'.warmed.alike) hp hb k1 k2 k3 (by rw [e1]; exact hce) hcv hcl T' rfl X'
    exact ⟨t2, st.trans a1, b1⟩
theorem vx_calll {S SX : Type} {post : Int64 → S → Prop} {px : SX → Prop} {B : S → State → Prop} {BX : String → SX → State → Prop} {AX : Nat → Prop} (hr : vx_Run p l e R s m args below meth c H locs cells slots mc ms (F0 m pc ls st0) rest (va_Ql post B A1 a) (vx_X px BX AX) free) (hS : va_S A0 H0 H locs) (hA : ∀ q, q < H.size → A1 q → A0 q) (hf : ∀ q, free q → A0 q) (hAX : ∀ q, q < H.size → AX q → A0 q)
    (kx : ∀ (E : String) (ce : Cell) (q9 : Addr) (u : SX) (t : State) (H1 : Heap) (locs1 : List Loc), t.heap = H1 → s.vm.Alike t.vm → px u → BX E u t → H.size ≤ H1.size → (∀ q : Nat, q < H.size → ¬ AX q → H1[q]? = H[q]?) → va_S A0 H0 H1 locs1 → H1[q9]? = some ce → ce.vm = .none → s.vm.findClass E = some ce.cls → vx_W p l e R s m args below meth c H1 locs1 (cells + mc) (slots + ms) Q (F0 m pc ls rest) q9)
    (kk : ∀ (r : Int64) (u : S) (t : State) (H1 : Heap) (locs1 : List Loc), t.heap = H1 → s.vm.Alike t.vm → post r u → B u t → H.size ≤ H1.size → (∀ q : Nat, q < H.size → ¬ A1 q → H1[q]? = H[q]?) → va_S A0 H0 H1 locs1 → W p l e R s m args below meth c H1 locs1 (cells + mc) (slots + ms) Q (F0 m (pc + 3) ls (.long r :: rest))) : W p l e R s m args below meth c H locs cells slots Q (F0 m pc ls st0) := by
  intro T hT X
  rcases hr T hT X with ⟨v, st₀, t, T', L, h0, X', hL, e1, e2, ⟨⟨r, u, hv, hp, hb⟩, hF⟩, st⟩ | ⟨q, st₀, t, T', L, E, ce, h0, X', hL, e1, e2, ⟨u, hp, hb, hF⟩, hce, hcv, hcl, st⟩
  · cases hv
    obtain ⟨k1, k2, k3⟩ := vx_keep h0 e1 hS hA hf hL hF
    obtain ⟨t2, a1, b1⟩ := kk r u t T'.heap (locs ++ L) e1.symm (by rw [← e2]; exact X'.warmed.alike) hp hb k1 k2 k3 T' rfl X'
    exact ⟨t2, st t2 a1, b1⟩
  · obtain ⟨k1, k2, k3⟩ := vx_keep h0 e1 hS hAX hf hL hF
    obtain ⟨t2, a1, b1⟩ := kx E ce q u t T'.heap (locs ++ L) e1.symm (by rw [← e2]; exact X'.warmed.alike) hp hb k1 k2 k3 (by rw [e1]; exact hce) hcv hcl T' rfl X'
    exact ⟨t2, st.trans a1, b1⟩
theorem vx_callf {S SX : Type} {post : UInt32 → S → Prop} {px : SX → Prop} {B : S → State → Prop} {BX : String → SX → State → Prop} {AX : Nat → Prop} (hr : vx_Run p l e R s m args below meth c H locs cells slots mc ms (F0 m pc ls st0) rest (va_Qf post B A1 a) (vx_X px BX AX) free) (hS : va_S A0 H0 H locs) (hA : ∀ q, q < H.size → A1 q → A0 q) (hf : ∀ q, free q → A0 q) (hAX : ∀ q, q < H.size → AX q → A0 q)
    (kx : ∀ (E : String) (ce : Cell) (q9 : Addr) (u : SX) (t : State) (H1 : Heap) (locs1 : List Loc), t.heap = H1 → s.vm.Alike t.vm → px u → BX E u t → H.size ≤ H1.size → (∀ q : Nat, q < H.size → ¬ AX q → H1[q]? = H[q]?) → va_S A0 H0 H1 locs1 → H1[q9]? = some ce → ce.vm = .none → s.vm.findClass E = some ce.cls → vx_W p l e R s m args below meth c H1 locs1 (cells + mc) (slots + ms) Q (F0 m pc ls rest) q9)
    (kk : ∀ (r : UInt32) (u : S) (t : State) (H1 : Heap) (locs1 : List Loc), t.heap = H1 → s.vm.Alike t.vm → post r u → B u t → H.size ≤ H1.size → (∀ q : Nat, q < H.size → ¬ A1 q → H1[q]? = H[q]?) → va_S A0 H0 H1 locs1 → W p l e R s m args below meth c H1 locs1 (cells + mc) (slots + ms) Q (F0 m (pc + 3) ls (.float r :: rest))) : W p l e R s m args below meth c H locs cells slots Q (F0 m pc ls st0) := by
  intro T hT X
  rcases hr T hT X with ⟨v, st₀, t, T', L, h0, X', hL, e1, e2, ⟨⟨r, u, hv, hp, hb⟩, hF⟩, st⟩ | ⟨q, st₀, t, T', L, E, ce, h0, X', hL, e1, e2, ⟨u, hp, hb, hF⟩, hce, hcv, hcl, st⟩
  · cases hv
    obtain ⟨k1, k2, k3⟩ := vx_keep h0 e1 hS hA hf hL hF
    obtain ⟨t2, a1, b1⟩ := kk r u t T'.heap (locs ++ L) e1.symm (by rw [← e2]; exact X'.warmed.alike) hp hb k1 k2 k3 T' rfl X'
    exact ⟨t2, st t2 a1, b1⟩
  · obtain ⟨k1, k2, k3⟩ := vx_keep h0 e1 hS hAX hf hL hF
    obtain ⟨t2, a1, b1⟩ := kx E ce q u t T'.heap (locs ++ L) e1.symm (by rw [← e2]; exact X'.warmed.alike) hp hb k1 k2 k3 (by rw [e1]; exact hce) hcv hcl T' rfl X'
    exact ⟨t2, st.trans a1, b1⟩
theorem vx_calld {S SX : Type} {post : UInt64 → S → Prop} {px : SX → Prop} {B : S → State → Prop} {BX : String → SX → State → Prop} {AX : Nat → Prop} (hr : vx_Run p l e R s m args below meth c H locs cells slots mc ms (F0 m pc ls st0) rest (va_Qd post B A1 a) (vx_X px BX AX) free) (hS : va_S A0 H0 H locs) (hA : ∀ q, q < H.size → A1 q → A0 q) (hf : ∀ q, free q → A0 q) (hAX : ∀ q, q < H.size → AX q → A0 q)
    (kx : ∀ (E : String) (ce : Cell) (q9 : Addr) (u : SX) (t : State) (H1 : Heap) (locs1 : List Loc), t.heap = H1 → s.vm.Alike t.vm → px u → BX E u t → H.size ≤ H1.size → (∀ q : Nat, q < H.size → ¬ AX q → H1[q]? = H[q]?) → va_S A0 H0 H1 locs1 → H1[q9]? = some ce → ce.vm = .none → s.vm.findClass E = some ce.cls → vx_W p l e R s m args below meth c H1 locs1 (cells + mc) (slots + ms) Q (F0 m pc ls rest) q9)
    (kk : ∀ (r : UInt64) (u : S) (t : State) (H1 : Heap) (locs1 : List Loc), t.heap = H1 → s.vm.Alike t.vm → post r u → B u t → H.size ≤ H1.size → (∀ q : Nat, q < H.size → ¬ A1 q → H1[q]? = H[q]?) → va_S A0 H0 H1 locs1 → W p l e R s m args below meth c H1 locs1 (cells + mc) (slots + ms) Q (F0 m (pc + 3) ls (.double r :: rest))) : W p l e R s m args below meth c H locs cells slots Q (F0 m pc ls st0) := by
  intro T hT X
  rcases hr T hT X with ⟨v, st₀, t, T', L, h0, X', hL, e1, e2, ⟨⟨r, u, hv, hp, hb⟩, hF⟩, st⟩ | ⟨q, st₀, t, T', L, E, ce, h0, X', hL, e1, e2, ⟨u, hp, hb, hF⟩, hce, hcv, hcl, st⟩
  · cases hv
    obtain ⟨k1, k2, k3⟩ := vx_keep h0 e1 hS hA hf hL hF
    obtain ⟨t2, a1, b1⟩ := kk r u t T'.heap (locs ++ L) e1.symm (by rw [← e2]; exact X'.warmed.alike) hp hb k1 k2 k3 T' rfl X'
    exact ⟨t2, st t2 a1, b1⟩
  · obtain ⟨k1, k2, k3⟩ := vx_keep h0 e1 hS hAX hf hL hF
    obtain ⟨t2, a1, b1⟩ := kx E ce q u t T'.heap (locs ++ L) e1.symm (by rw [← e2]; exact X'.warmed.alike) hp hb k1 k2 k3 (by rw [e1]; exact hce) hcv hcl T' rfl X'
    exact ⟨t2, st.trans a1, b1⟩
theorem vx_callv {S SX : Type} {post : S → Prop} {px : SX → Prop} {B : S → State → Prop} {BX : String → SX → State → Prop} {AX : Nat → Prop} (hr : vx_Run p l e R s m args below meth c H locs cells slots mc ms (F0 m pc ls st0) rest (va_Qv post B A1 a) (vx_X px BX AX) free) (hS : va_S A0 H0 H locs) (hA : ∀ q, q < H.size → A1 q → A0 q) (hf : ∀ q, free q → A0 q) (hAX : ∀ q, q < H.size → AX q → A0 q)
    (kx : ∀ (E : String) (ce : Cell) (q9 : Addr) (u : SX) (t : State) (H1 : Heap) (locs1 : List Loc), t.heap = H1 → s.vm.Alike t.vm → px u → BX E u t → H.size ≤ H1.size → (∀ q : Nat, q < H.size → ¬ AX q → H1[q]? = H[q]?) → va_S A0 H0 H1 locs1 → H1[q9]? = some ce → ce.vm = .none → s.vm.findClass E = some ce.cls → vx_W p l e R s m args below meth c H1 locs1 (cells + mc) (slots + ms) Q (F0 m pc ls rest) q9)
    (kk : ∀ (u : S) (t : State) (H1 : Heap) (locs1 : List Loc), t.heap = H1 → s.vm.Alike t.vm → post u → B u t → H.size ≤ H1.size → (∀ q : Nat, q < H.size → ¬ A1 q → H1[q]? = H[q]?) → va_S A0 H0 H1 locs1 → W p l e R s m args below meth c H1 locs1 (cells + mc) (slots + ms) Q (F0 m (pc + 3) ls (rest))) : W p l e R s m args below meth c H locs cells slots Q (F0 m pc ls st0) := by
  intro T hT X
  rcases hr T hT X with ⟨v, st₀, t, T', L, h0, X', hL, e1, e2, ⟨⟨u, hv, hp, hb⟩, hF⟩, st⟩ | ⟨q, st₀, t, T', L, E, ce, h0, X', hL, e1, e2, ⟨u, hp, hb, hF⟩, hce, hcv, hcl, st⟩
  · cases hv
    obtain ⟨k1, k2, k3⟩ := vx_keep h0 e1 hS hA hf hL hF
    obtain ⟨t2, a1, b1⟩ := kk u t T'.heap (locs ++ L) e1.symm (by rw [← e2]; exact X'.warmed.alike) hp hb k1 k2 k3 T' rfl X'
    exact ⟨t2, st t2 a1, b1⟩
  · obtain ⟨k1, k2, k3⟩ := vx_keep h0 e1 hS hAX hf hL hF
    obtain ⟨t2, a1, b1⟩ := kx E ce q u t T'.heap (locs ++ L) e1.symm (by rw [← e2]; exact X'.warmed.alike) hp hb k1 k2 k3 (by rw [e1]; exact hce) hcv hcl T' rfl X'
    exact ⟨t2, st.trans a1, b1⟩

theorem vx_catch {own name : String} {E : String} {ce : Cell} {q : Addr} (hown : s.vm.findClass own = some m.cls) (pre : List ExceptionTableEntry) (x : ExceptionTableEntry) (suf : List ExceptionTableEntry) (hsplit : c.exceptionTable.toList = pre ++ x :: suf)
    (hpass : ∀ z ∈ pre, covers z pc = false ∨ (z.catchType ≠ 0 ∧ ∃ nm : String, (Cond.classLink own z.catchType nm).before args s = true ∧ va_Nc E nm s)) (hx : covers x pc = true) (h0 : x.catchType ≠ 0)
    (hlink : (Cond.classLink own x.catchType name).before args s = true) (hcast : (Cond.castable E name).before args s = true) (hcell : H[q]? = some ce) (hv : ce.vm = .none) (hcl : s.vm.findClass E = some ce.cls)
    (kk : W p l e R s m args below meth c H locs cells slots Q (F0 m x.handlerPc ls [.ref q])) : vx_W p l e R s m args below meth c H locs cells slots Q (F0 m pc ls rest) q := by
  intro T hT X
  have hpl : e.platform.magicAccessors = ({} : Platform).magicAccessors := by rw [X.admits.platform]
  obtain ⟨c3, c4, hc3, hc4, hasg⟩ := Cond.castable_spec hcast
  cases Option.some.inj (hc3.symm.trans hcl)
  obtain ⟨c5, hc5, hcl5⟩ := Cond.classLink_spec hown hlink e.platform hpl
  cases Option.some.inj (hc4.symm.trans hc5)
  obtain ⟨vm', X', st⟩ := X.thenCaughtThrough q (g := F0 m pc ls rest) rfl (Steps.refl _) (by rw [hT]; exact hcell) (by rw [hv]; rfl) (by obtain ⟨k9, h9, -⟩ := Vm.findClass_spec hcl; exact ⟨k9, h9⟩) pre x suf hsplit
    (fun z hz => by
      rcases hpass z hz with h | ⟨hz0, nm, hl1, hn1⟩
      · exact Or.inl h
      · obtain ⟨c6, hc6, hcl6⟩ := Cond.classLink_spec hown hl1 e.platform hpl
        obtain ⟨a8, b8, h1, h2, h3⟩ := hn1
        cases Option.some.inj (h1.symm.trans hcl)
        cases Option.some.inj (h2.symm.trans hc6)
        exact Or.inr ⟨hz0, _, hcl6, h3⟩) hx (Or.inr ⟨h0, c4, hcl5, hasg⟩)
  obtain ⟨t, a1, b1⟩ := kk (T.setVm vm') hT X'
  exact ⟨t, st.trans a1, b1⟩
end Rows
section Ends
variable {p : Program} {l : Launch} {e : Env} {R : Room} {s : State} {m : MethodId} {args : Array Value} {below : List Frame} {meth : Method} {c : Code} {H : Heap} {locs : List Loc} {cells slots : Nat} {Q : State → Prop}
variable {mc ms : Nat} {free : Addr → Prop} {A0 A1 : Nat → Prop} {H0 : Heap} {a : Array Value} {ls : Array Slot} {st0 rest : List Value}
variable {Qc : Array Value → State → Outcome → State → Prop} {XC : String → State → State → Prop}

def vx_MQ (below : List Frame) (Qc : Array Value → State → Outcome → State → Prop) (XC : String → State → State → Prop) (a : Array Value) (s : State) (mc ms : Nat) (free : Addr → Prop) : State → Prop := fun t =>
  ∃ o, t.status = .running ∧ Ended t below o ∧ vx_Q Qc XC mc ms free a s o t
theorem vx_ret {g : JFrame} {mc ms : Nat} (k : W p l e R s m args below meth c H locs cells slots (MQ below Qc args s mc ms free) g) : W p l e R s m args below meth c H locs cells slots (vx_MQ below Qc XC args s mc ms free) g := by
  intro T hT X
  obtain ⟨t, a1, o, b1, b2, b3, b4⟩ := k T hT X
  exact ⟨t, a1, o, b1, b2, Or.inl ⟨b3, b4⟩⟩

theorem vx_widen {g : JFrame} {q : Addr} {k n : Nat} (h1 : cells ≤ k) (h2 : slots ≤ n) (kk : vx_W p l e R s m args below meth c H locs k n Q g q) : vx_W p l e R s m args below meth c H locs cells slots Q g q := fun T hT X => kk T hT (stand_widen X h1 h2)
theorem vx_out {pc : Nat} {E : String} {ce : Cell} {q : Addr} {mc ms : Nat} (hout : ∀ x ∈ c.exceptionTable.toList, covers x pc = false) (hlocks : meth.locks = false) (hcell : H[q]? = some ce) (hv : ce.vm = .none) (hcl : s.vm.findClass E = some ce.cls)
    (hx : ∀ t : State, t.heap = H → s.vm.Alike t.vm → XC E s t) (hf : ∀ z ∈ locs, free z.base) (hc : cells ≤ mc) (hs : slots ≤ ms) :
    vx_W p l e R s m args below meth c H locs cells slots (vx_MQ below Qc XC args s mc ms free) (F0 m pc ls rest) q := by
  intro T hT X
  obtain ⟨st1, hrun, hend, hW, hsm⟩ := X.leaveThrown q (g := F0 m pc ls rest) rfl rfl rfl hout hlocks
  have hcell9 : (T.setFrames (.throwing q :: below)).heap[q]? = some ce := by
    show T.heap[q]? = some ce
    rw [hT]; exact hcell
  exact ⟨_, st1, .threw q, hrun, hend, Or.inr ⟨q, rfl, E, ce, locs, hx _ hT hW.alike, hcell9, hv, hcl, hW, hsm.mono hc hs, hf⟩⟩
theorem vx_frame {U : State} {k n : Nat} (h : s.sameButNew ({ U with vm := s.vm } : State) locs k n) : s.heap.size ≤ U.heap.size ∧ ∀ q : Nat, q < s.heap.size → (∀ z ∈ locs, z.base ≠ q) → U.heap[q]? = s.heap[q]? := by
  obtain ⟨-, h2, -, -, -, h6⟩ := h
  refine ⟨h2, fun q hq hz => ?_⟩
  obtain ⟨c9, e1, e2, e3, e4⟩ := h6 q _ (Array.getElem?_eq_getElem hq)
  have hs : c9.slots = (s.heap[q]).slots := Array.ext_getElem? fun i => e4 i fun hm => hz _ hm rfl
  have h9 : c9 = s.heap[q] := by
    rw [hs] at e2
    exact e2
  have e5 : U.heap[q]? = some c9 := e1
  rw [e5, h9, Array.getElem?_eq_getElem hq]

def vx_no (w : Cond) : Bool := decide (w ≠ .isRef (.static Bundle.tN "UNASSIGNED_STACK" Bundle.steD)) && decide (w ≠ .isRef (.static Bundle.tN "SUPPRESSED_SENTINEL" Bundle.listD)) && decide (w ≠ .laysStatic Bundle.tN "UNASSIGNED_STACK" Bundle.steD) && decide (w ≠ .laysStatic Bundle.tN "SUPPRESSED_SENTINEL" Bundle.listD)
def vx_at0 (own : String) (ic : Nat) (X : String) (names : List String) : List Cond := (Bundle.ownAtoms0 own ic X names).filter vx_no
def vx_atS (own : String) (ic : Nat) (X : String) (names : List String) : List Cond := (Bundle.ownAtoms own ic X names).filter vx_no

def vx_ot (w : Cond) : Bool := w.onTables || goodWord w
theorem vx_ot_at {args a' : Array Value} {s U : State} {w : Cond} (hW : s.WarmedH U.vm) (hvm : s.vm = U.vm) (hg : vx_ot w = true) (h : w.before args s = true) : w.before a' U = true := by
  simp only [vx_ot, Bool.or_eq_true] at hg
  rcases hg with hg | hg
  · exact va_tabs hg hvm h
  · exact word_at hW (good_of_word hg) h

theorem vx_hat {args : Array Value} {s : State} {L B : List Cond} (h1 : ∀ w ∈ L.filter goodWord, w.before args s = true) (h2 : ∀ w ∈ L.filter (fun w => !goodWord w), w ∈ B) (h3 : ∀ w ∈ B, w.before args s = true) : ∀ w ∈ L, w.before args s = true := by
  intro w hw
  by_cases g : goodWord w = true
  · exact h1 w (List.mem_filter.mpr ⟨hw, g⟩)
  · refine h3 w (h2 w (List.mem_filter.mpr ⟨hw, ?_⟩))
    show (!goodWord w) = true
    cases hgw : goodWord w
    · rfl
    · exact absurd hgw g
theorem vx_c {args : Array Value} {s : State} {w : Cond} {B : List Cond} (h : w.before args s = true) (t : ∀ w ∈ B, w.before args s = true) : ∀ w' ∈ w :: B, w'.before args s = true := fun w' h' => (List.mem_cons.mp h').elim (fun e => by rw [e]; exact h) (t w')
theorem vx_n {args : Array Value} {s : State} : ∀ w ∈ ([] : List Cond), w.before args s = true := fun _ h => nomatch h
theorem vx_own {args : Array Value} {s : State} {L : List Cond} (h1 : ∀ w ∈ L.filter vx_no, w.before args s = true)
    (hU : (Cond.isRef (.static Bundle.tN "UNASSIGNED_STACK" Bundle.steD)).before args s = true) (hN : (Cond.isRef (.static Bundle.tN "SUPPRESSED_SENTINEL" Bundle.listD)).before args s = true)
    (lU : (Cond.laysStatic Bundle.tN "UNASSIGNED_STACK" Bundle.steD).before args s = true) (lN : (Cond.laysStatic Bundle.tN "SUPPRESSED_SENTINEL" Bundle.listD).before args s = true) : ∀ w ∈ L, w.before args s = true := by
  intro w hw
  by_cases e1 : w = .isRef (.static Bundle.tN "UNASSIGNED_STACK" Bundle.steD)
  · rw [e1]; exact hU
  · by_cases e2 : w = .isRef (.static Bundle.tN "SUPPRESSED_SENTINEL" Bundle.listD)
    · rw [e2]; exact hN
    · by_cases e3 : w = .laysStatic Bundle.tN "UNASSIGNED_STACK" Bundle.steD
      · rw [e3]; exact lU
      · by_cases e4 : w = .laysStatic Bundle.tN "SUPPRESSED_SENTINEL" Bundle.listD
        · rw [e4]; exact lN
        · exact h1 w (List.mem_filter.mpr ⟨hw, by unfold vx_no; rw [decide_eq_true e1, decide_eq_true e2, decide_eq_true e3, decide_eq_true e4]; rfl⟩)

def vx_L (C n d : String) (A : Nat → Prop) (U : State) (H : Heap) : Prop := ∃ (c : ClassId) (k : Class) (i : Nat) (f : Field) (a : Nat) (cell : Cell), U.vm.findClass C = some c ∧ U.fieldFound? C n d = some (c, k, i, f) ∧ f.isStatic = true ∧ k.statics = some a ∧ H[a]? = some cell ∧ cell.vm.isStatics = true ∧ cell.cls = c ∧ f.slot < cell.slots.size ∧ k.staticTypes[f.slot]? = some f.type ∧ ¬ A a
theorem vx_L.moved {C n d : String} {A : Nat → Prop} {u U : State} {H : Heap} (hvm : u.vm.Alike U.vm) (h : vx_L C n d A u H) : vx_L C n d A U H := by
  obtain ⟨c, k, i, f, a, cell, h1, h2, h3, h4, h5, h6, h7, h8, h9, h10⟩ := h
  obtain ⟨k', hi', he⟩ := State.fieldFound?_setVm hvm h2
  exact ⟨c, k', i, f, a, cell, by rw [hvm.findClass]; exact h1, hi', h3, by rw [he]; exact h4, h5, h6, h7, h8, by rw [he]; exact h9, h10⟩
theorem vx_L.kept {C n d : String} {A : Nat → Prop} {U : State} {H H1 : Heap} (h : vx_L C n d A U H) (hq : ∀ a : Nat, a < H.size → ¬ A a → H1[a]? = H[a]?) : vx_L C n d A U H1 := by
  obtain ⟨c, k, i, f, a, cell, h1, h2, h3, h4, h5, h6, h7, h8, h9, h10⟩ := h
  exact ⟨c, k, i, f, a, cell, h1, h2, h3, h4, by rw [hq a (Array.getElem?_eq_some_iff.mp h5).1 h10]; exact h5, h6, h7, h8, h9, h10⟩
theorem vx_L.narrow {C n d : String} {A B : Nat → Prop} {U : State} {H : Heap} (h : vx_L C n d A U H) (hAB : ∀ q, B q → A q) : vx_L C n d B U H := by
  obtain ⟨c, k, i, f, a, cell, h1, h2, h3, h4, h5, h6, h7, h8, h9, h10⟩ := h
  exact ⟨c, k, i, f, a, cell, h1, h2, h3, h4, h5, h6, h7, h8, h9, fun z => h10 (hAB _ z)⟩
theorem vx_L.word {C n d : String} {A : Nat → Prop} {s : State} {args : Array Value} (h : vx_L C n d A s s.heap) : (Cond.laysStatic C n d).before args s = true := by
  obtain ⟨c, k, i, f, a, cell, h1, h2, h3, h4, h5, h6, h7, h8, h9, -⟩ := h
  show (Cond.laysStatic C n d).holds args s none s [] = true
  exact Cond.laysStatic_of h1 h2 h3 h4 h5 h6 h7 h8 h9

def vx_Zq (C n d : String) (A : Nat → Prop) (U : State) (H : Heap) : Prop := va_Zq C n d A U H ∧ vx_L C n d A U H
theorem vx_Zq.moved {C n d : String} {A : Nat → Prop} {u U : State} {H : Heap} (hvm : u.vm.Alike U.vm) (h : vx_Zq C n d A u H) : vx_Zq C n d A U H := ⟨va_Zq.moved hvm h.1, vx_L.moved hvm h.2⟩
theorem vx_Zq.kept {C n d : String} {A : Nat → Prop} {U : State} {H H1 : Heap} (h : vx_Zq C n d A U H) (hq : ∀ a : Nat, a < H.size → ¬ A a → H1[a]? = H[a]?) : vx_Zq C n d A U H1 := ⟨va_Zq.kept h.1 hq, vx_L.kept h.2 hq⟩
theorem vx_Zq.narrow {C n d : String} {A B : Nat → Prop} {U : State} {H : Heap} (h : vx_Zq C n d A U H) (hAB : ∀ q, B q → A q) : vx_Zq C n d B U H := ⟨va_Zq.narrow h.1 hAB, vx_L.narrow h.2 hAB⟩
theorem vx_Zqof {args : Array Value} {s : State} {C n d : String} {A : Nat → Prop} (hl : (Cond.laysStatic C n d).before args s = true) (hini : (Cond.initialized C).before args s = true) (h : (Cond.isRef (.static C n d)).before args s = true) (hA : ∀ a : Nat, a < s.heap.size → ¬ A a) : vx_Zq C n d A s s.heap := by
  refine ⟨va_Zqof hl hini h hA, ?_⟩
  obtain ⟨c, k, i, f, a, cell, h1, h2, h3, h4, h5, h6, h7, h8, h9⟩ := Cond.laysStatic_spec hl
  exact ⟨c, k, i, f, a, cell, h1, h2, h3, h4, h5, h6, h7, h8, h9, hA a (Array.getElem?_eq_some_iff.mp h5).1⟩
theorem vx_isRef {C n d : String} {v : Value} {A : Nat → Prop} {s : State} {args : Array Value} (h : va_Z C n d v A s s.heap) (hv : v.isRef = true) : (Cond.isRef (.static C n d)).before args s = true := by
  obtain ⟨cf, kf, fi, f, a, cell, h1, h2, h3, h4, h5, h6, h7, -⟩ := h
  have he : (Term.static C n d).eval args s none [] s = some v := by
    simp [Term.eval, State.fieldNamed?, h1, h2, h4, h5, h6, h7]
  simp only [Cond.before, Cond.holds, Cond.value, he]
  cases v <;> simp_all [Value.isRef]
theorem vx_isRefq {C n d : String} {A : Nat → Prop} {s : State} {args : Array Value} (h : va_Zq C n d A s s.heap) : (Cond.isRef (.static C n d)).before args s = true := by
  rcases h with h | ⟨t, h⟩
  · exact vx_isRef h rfl
  · exact vx_isRef h rfl

theorem vx_rebase {T : State} (X : Stand p l e R s m args below meth c T locs cells slots) {R' : Room} (hf : R'.frames ≤ R.frames) (hl : R'.locals ≤ R.locals) (hc : cells + R'.cells ≤ R.cells) (hs : slots + R'.slots ≤ R.slots) :
    Stand p l e R' ((T.setVm s.vm).setFrames (.invoking m args :: below)) m args below meth c T [] 0 0 := by
  have htop : (T.setVm s.vm).topJava?.isSome := X.here.top
  have hF : ((T.setVm s.vm).setFrames (.invoking m args :: below)).frames = .invoking m args :: below := State.frames_setFrames _ (State.cur_lt_of_top htop)
  obtain ⟨g₀, hg0⟩ := Option.isSome_iff_exists.mp htop
  obtain ⟨r, hr⟩ := State.topJava?_eq_some.mp hg0
  have hl9 : e.platform.stackLimits (T.setVm s.vm).me = e.platform.stackLimits s.me := X.limits
  have hb9 : (T.setVm s.vm).me.stackBytes = s.me.stackBytes := X.bytes
  refine ⟨X.admits, X.cas, X.clock, hF, ?_, X.hears, X.method, X.code, X.here, X.tail, X.warmed, ?_, ?_, ?_⟩
  · have h := X.room
    have hU : ((T.setVm s.vm).setFrames (.invoking m args :: below)).localsInUse = s.localsInUse := by
      rw [State.localsInUse_invoking hF (meth := meth) (c := c) X.method X.code, State.localsInUse_invoking X.frames X.method X.code]
    simp only [State.hasRoom, Bool.and_eq_true, decide_eq_true_eq] at h ⊢
    obtain ⟨⟨⟨⟨h1, h2, h3, h4, h5, h6⟩, h7⟩, h8⟩, h9⟩ := h
    rw [X.frames, List.length_cons] at h2 h3
    have q1 := X.heapSize
    have q2 := X.used
    simp only [hF, hU, List.length_cons, State.stackLimits_setFrames, State.stackBytes_setFrames, hl9, hb9]
    refine ⟨⟨⟨⟨by omega, by omega, by omega, by omega, by omega, h6⟩, ?_⟩, ?_⟩, X.book⟩
    · show T.heap.size + R'.cells ≤ e.platform.maxCells
      omega
    · show T.slotsUsed + R'.slots ≤ e.platform.maxSlots
      omega
  · rw [State.stackLimits_setFrames]; rfl
  · rw [State.stackBytes_setFrames]; rfl
  · refine ⟨?_, Nat.le_refl _, Nat.le_refl _, ?_, ?_, fun a c9 h9 => ⟨c9, h9, rfl, rfl, fun _ _ => rfl⟩⟩
    · obtain ⟨t, ht, -⟩ := State.frames_cons hr
      show T.setVm s.vm = { ((T.setVm s.vm).setFrames (.invoking m args :: below)).setFrames (T.setVm s.vm).frames with heap := T.heap, slotsUsed := T.slotsUsed }
      rw [State.setFrames_setFrames, State.setFrames_self ht]
      rfl
    · show T.slotsUsed = T.slotsUsed + ((T.heap.toList.drop T.heap.size).map (·.slots.size)).sum
      rw [List.drop_eq_nil_of_le (Nat.le_of_eq Array.length_toList)]
      rfl
    · show ((T.heap.toList.drop T.heap.size).map (·.slots.size)).sum ≤ 0
      rw [List.drop_eq_nil_of_le (Nat.le_of_eq Array.length_toList)]
      exact Nat.le_refl _

theorem vx_throw0 {cc : ByteArray} {pc : Nat} (hexec : p.tables.exec = Jvm.exec) (hb : c.code = cc) (hl : l.stackTraces = false) {own cls : String} {names : List String} {ik ic mc ms : Nat} {A : Nat → Prop}
    (hown : s.vm.findClass own = some m.cls) (hcls : Bundle.fit cls = true) (hnames : ∀ n ∈ names, Bundle.fit n = true)
    (hk : (Cond.classLink own ik cls).before args s = true) (hini : (Cond.initialized cls).before args s = true) (hat : ∀ w ∈ vx_at0 own ic cls names, w.before args s = true)
    (hgood : ∀ w ∈ Cond.classLink own ik cls :: Cond.initialized cls :: vx_at0 own ic cls names, vx_ot w = true)
    (hU : vx_Zq Bundle.tN "UNASSIGNED_STACK" Bundle.steD A s s.heap) (hN : vx_Zq Bundle.tN "SUPPRESSED_SENTINEL" Bundle.listD A s s.heap) (hS : va_S A s.heap H locs) (hsize : ls.size = c.maxLocals)
    (d0 : decode cc pc = .ok (.new ik, 3)) (d3 : decode cc (pc + 3) = .ok (.dup, 1)) (d4 : decode cc (pc + 4) = .ok (.invokespecial ic, 3)) (d7 : decode cc (pc + 7) = .ok (.athrow, 1))
    (hout : ∀ x ∈ c.exceptionTable.toList, covers x (pc + 7) = false)
    (hRframes : names.length + 3 < R.frames) (hRlocals : (rest.map fun v => v.category).sum + (13 * (names.length + 1) + 42) ≤ R.locals) (hRcells : cells + 1 ≤ R.cells) (hRslots : slots + 6 ≤ R.slots) (hlocks : meth.locks = false)
    (hx : ∀ t : State, s.vm.Alike t.vm → H.size ≤ t.heap.size → (∀ q : Nat, q < H.size → t.heap[q]? = H[q]?) → XC cls s t)
    (hf : ∀ z ∈ locs, free z.base) (hc : cells + 1 ≤ mc) (hs : slots + 6 ≤ ms) :
    W p l e R s m args below meth c H locs cells slots (vx_MQ below Qc XC args s mc ms free) (F0 m pc ls rest) := by
  intro T hT X
  have htr : e.platform.stackTraces = false := (show e.platform.stackTraces = l.stackTraces by rw [X.admits.platform]).trans hl
  have Y := vx_rebase X (R' := { frames := R.frames, locals := R.locals, cells := 1, slots := 6 }) (Nat.le_refl _) (Nat.le_refl _) hRcells hRslots
  obtain ⟨s', hA⟩ : ∃ z, z = (T.setVm s.vm).setFrames (.invoking m args :: below) := ⟨_, rfl⟩
  rw [← hA] at Y
  have hvm : s'.vm = s.vm := by rw [hA]; rfl
  have hhp : s'.heap = H := by rw [hA]; exact hT
  have hW0 : s.WarmedH s'.vm := by rw [hvm]; exact State.WarmedH.refl s
  have hat' : ∀ w ∈ vx_at0 own ic cls names, w.before args s' = true := fun w hw => vx_ot_at hW0 hvm.symm (hgood w (List.mem_cons_of_mem _ (List.mem_cons_of_mem _ hw))) (hat w hw)
  have hk' : (Cond.classLink own ik cls).before args s' = true := vx_ot_at hW0 hvm.symm (hgood _ List.mem_cons_self) hk
  have hini' : (Cond.initialized cls).before args s' = true := vx_ot_at hW0 hvm.symm (hgood _ (List.mem_cons_of_mem _ List.mem_cons_self)) hini
  have hU' : vx_Zq Bundle.tN "UNASSIGNED_STACK" Bundle.steD A s' s'.heap := by rw [hhp]; exact vx_Zq.moved hW0.alike (hU.kept hS.2.1)
  have hN' : vx_Zq Bundle.tN "SUPPRESSED_SENTINEL" Bundle.listD A s' s'.heap := by rw [hhp]; exact vx_Zq.moved hW0.alike (hN.kept hS.2.1)
  have h : ∀ w ∈ Bundle.ownAtoms0 own ic cls names, w.before args s' = true := vx_own hat' (vx_isRefq hU'.1) (vx_isRefq hN'.1) hU'.2.word hN'.2.word
  have hown' : s'.vm.findClass own = some m.cls := by rw [hvm]; exact hown
  have hins : (Cond.instantiable cls 6).before args s' = true := h _ (by simp [Bundle.ownAtoms0])
  obtain ⟨vm₁, cX, kX, hfX, hkX, -, -, X₁, st1⟩ := Y.newCold hexec (own := own) (C := cls) (index := ik) (n := 6) hown' hk' hins hini'
    (g := F0 m pc ls rest) rfl (by rw [hb]; exact d0) (Nat.le_refl _) (Nat.le_refl _)
  generalize hT1 : (T.setVm vm₁).pushCell { cls := cX, slots := kX.instanceTypes.map defaultValue, vm := .none } = T1 at X₁ st1
  have hcat : (Value.ref T.heap.size).category = 1 := rfl
  have hcellA : T1.heap[T.heap.size]? = some (freshCell cX kX) := by rw [← hT1]; exact State.heap_pushCell_size _ _
  have d3' : decode c.code (pc + 3) = .ok (.dup, 1) := by rw [hb]; exact d3
  obtain ⟨U, hsteps, hrun, hend, hW, hsame, ce, hce, hO⟩ := X₁.ctorThrow0 hexec htr (own := own) (cls := cls) (names := names) (ic := ic) hown' hcls hnames h (fun x hx => nomatch hx) hfX hkX hcellA (by rw [hhp, hT]; exact Nat.le_refl _)
    (g := { method := m, pc := pc + 4, locals := ls, stack := .ref T.heap.size :: .ref T.heap.size :: rest, locked := none }) rfl hsize rfl rfl (rest := rest) rfl
    (by rw [hb]; exact d4) (by rw [hb]; exact d7) hout hRframes (by simp only [List.map_cons, List.sum_cons, hcat]; omega) hlocks
  obtain ⟨f1, f2⟩ := vx_frame hsame
  rw [hhp] at f1 f2
  have hWs : s.WarmedH U.vm := State.WarmedH.trans hW0 hW
  have hcl : s.vm.findClass cls = some ce.cls := by
    have h9 := hO.cls
    rw [hvm] at h9
    exact h9
  have hall : s.sameButNew ({ U with vm := s.vm } : State) locs mc ms := by
    subst hA
    obtain ⟨e1, e2⟩ := hsame
    rw [State.setFrames_setFrames] at e1
    have h2 : (T.setVm s.vm).sameButNew ({ U with vm := s.vm } : State) [] (0 + 1) (0 + 6) := ⟨e1, e2⟩
    have h3 := X.same.trans h2
    rw [List.append_nil] at h3
    exact h3.mono hc hs
  refine ⟨U, ?_, .threw T.heap.size, hrun, hend, Or.inr ⟨T.heap.size, rfl, cls, ce, locs, hx U hWs.alike f1 (fun q hq => f2 q hq (fun z hz => nomatch hz)), hce, hO.vm, hcl, hWs, hall, hf⟩⟩
  refine st1 _ ?_
  show Steps p.tables e below (T1.setTop { method := m, pc := pc + 3, locals := ls, stack := .ref T.heap.size :: rest, locked := none }) _
  jvm_step X₁.here [X₁.here.top, hexec, d3', Value.category]
  exact hsteps

theorem vx_throwS {cc : ByteArray} {pc : Nat} (hexec : p.tables.exec = Jvm.exec) (hb : c.code = cc) (hl : l.stackTraces = false) {own cls text : String} {names : List String} {ik is ic mc ms sa : Nat} {A : Nat → Prop}
    (hown : s.vm.findClass own = some m.cls) (hcls : Bundle.fit cls = true) (hnames : ∀ n ∈ names, Bundle.fit n = true)
    (hk : (Cond.classLink own ik cls).before args s = true) (hini : (Cond.initialized cls).before args s = true) (hstr : vk_R own is text sa s) (hat : ∀ w ∈ vx_atS own ic cls names, w.before args s = true)
    (hgood : ∀ w ∈ Cond.classLink own ik cls :: Cond.initialized cls :: vx_atS own ic cls names, vx_ot w = true)
    (hU : vx_Zq Bundle.tN "UNASSIGNED_STACK" Bundle.steD A s s.heap) (hN : vx_Zq Bundle.tN "SUPPRESSED_SENTINEL" Bundle.listD A s s.heap) (hS : va_S A s.heap H locs) (hsize : ls.size = c.maxLocals)
    (d0 : decode cc pc = .ok (.new ik, 3)) (d3 : decode cc (pc + 3) = .ok (.dup, 1)) (d4 : decode cc (pc + 4) = .ok (.ldc is, 2)) (d6 : decode cc (pc + 6) = .ok (.invokespecial ic, 3)) (d9 : decode cc (pc + 9) = .ok (.athrow, 1))
    (hout : ∀ x ∈ c.exceptionTable.toList, covers x (pc + 9) = false)
    (hRframes : names.length + 3 < R.frames) (hRlocals : (rest.map fun v => v.category).sum + (13 * (names.length + 1) + 43) ≤ R.locals) (hRcells : cells + 1 ≤ R.cells) (hRslots : slots + 6 ≤ R.slots) (hlocks : meth.locks = false)
    (hx : ∀ t : State, s.vm.Alike t.vm → H.size ≤ t.heap.size → (∀ q : Nat, q < H.size → t.heap[q]? = H[q]?) → XC cls s t)
    (hf : ∀ z ∈ locs, free z.base) (hc : cells + 1 ≤ mc) (hs : slots + 6 ≤ ms) :
    W p l e R s m args below meth c H locs cells slots (vx_MQ below Qc XC args s mc ms free) (F0 m pc ls rest) := by
  intro T hT X
  have htr : e.platform.stackTraces = false := (show e.platform.stackTraces = l.stackTraces by rw [X.admits.platform]).trans hl
  have Y := vx_rebase X (R' := { frames := R.frames, locals := R.locals, cells := 1, slots := 6 }) (Nat.le_refl _) (Nat.le_refl _) hRcells hRslots
  obtain ⟨s', hA⟩ : ∃ z, z = (T.setVm s.vm).setFrames (.invoking m args :: below) := ⟨_, rfl⟩
  rw [← hA] at Y
  have hvm : s'.vm = s.vm := by rw [hA]; rfl
  have hhp : s'.heap = H := by rw [hA]; exact hT
  have hW0 : s.WarmedH s'.vm := by rw [hvm]; exact State.WarmedH.refl s
  have hat' : ∀ w ∈ vx_atS own ic cls names, w.before args s' = true := fun w hw => vx_ot_at hW0 hvm.symm (hgood w (List.mem_cons_of_mem _ (List.mem_cons_of_mem _ hw))) (hat w hw)
  have hk' : (Cond.classLink own ik cls).before args s' = true := vx_ot_at hW0 hvm.symm (hgood _ List.mem_cons_self) hk
  have hini' : (Cond.initialized cls).before args s' = true := vx_ot_at hW0 hvm.symm (hgood _ (List.mem_cons_of_mem _ List.mem_cons_self)) hini
  have hU' : vx_Zq Bundle.tN "UNASSIGNED_STACK" Bundle.steD A s' s'.heap := by rw [hhp]; exact vx_Zq.moved hW0.alike (hU.kept hS.2.1)
  have hN' : vx_Zq Bundle.tN "SUPPRESSED_SENTINEL" Bundle.listD A s' s'.heap := by rw [hhp]; exact vx_Zq.moved hW0.alike (hN.kept hS.2.1)
  have h : ∀ w ∈ Bundle.ownAtoms own ic cls names, w.before args s' = true := vx_own hat' (vx_isRefq hU'.1) (vx_isRefq hN'.1) hU'.2.word hN'.2.word
  have hown' : s'.vm.findClass own = some m.cls := by rw [hvm]; exact hown
  have hins : (Cond.instantiable cls 6).before args s' = true := h _ (by simp [Bundle.ownAtoms])
  obtain ⟨vm₁, cX, kX, hfX, hkX, -, -, X₁, st1⟩ := Y.newCold hexec (own := own) (C := cls) (index := ik) (n := 6) hown' hk' hins hini'
    (g := F0 m pc ls rest) rfl (by rw [hb]; exact d0) (Nat.le_refl _) (Nat.le_refl _)
  generalize hT1 : (T.setVm vm₁).pushCell { cls := cX, slots := kX.instanceTypes.map defaultValue, vm := .none } = T1 at X₁ st1
  have hcat : (Value.ref T.heap.size).category = 1 := rfl
  have hcellA : T1.heap[T.heap.size]? = some (freshCell cX kX) := by rw [← hT1]; exact State.heap_pushCell_size _ _
  have d3' : decode c.code (pc + 3) = .ok (.dup, 1) := by rw [hb]; exact d3
  have d4' : decode c.code (pc + 4) = .ok (.ldc is, 2) := by rw [hb]; exact d4
  have hstr' : vk_R own is text sa s' := vk_R.warm hW0 hstr
  obtain ⟨U, hsteps, hrun, hend, hW, hsame, ce, hce, hO⟩ := X₁.ctorThrowS hexec htr (own := own) (cls := cls) (names := names) (ic := ic) hown' hcls hnames h (fun x hx => nomatch hx) hfX hkX hcellA (by rw [hhp, hT]; exact Nat.le_refl _) (msg := .ref sa) rfl
    (g := { method := m, pc := pc + 6, locals := ls, stack := .ref sa :: .ref T.heap.size :: .ref T.heap.size :: rest, locked := none }) rfl hsize rfl rfl (rest := rest) rfl
    (by rw [hb]; exact d6) (by rw [hb]; exact d9) hout hRframes (by simp only [List.map_cons, List.sum_cons, hcat]; omega) hlocks
  obtain ⟨f1, f2⟩ := vx_frame hsame
  rw [hhp] at f1 f2
  have hWs : s.WarmedH U.vm := State.WarmedH.trans hW0 hW
  have hcl : s.vm.findClass cls = some ce.cls := by
    have h9 := hO.cls
    rw [hvm] at h9
    exact h9
  have hall : s.sameButNew ({ U with vm := s.vm } : State) locs mc ms := by
    subst hA
    obtain ⟨e1, e2⟩ := hsame
    rw [State.setFrames_setFrames] at e1
    have h2 : (T.setVm s.vm).sameButNew ({ U with vm := s.vm } : State) [] (0 + 1) (0 + 6) := ⟨e1, e2⟩
    have h3 := X.same.trans h2
    rw [List.append_nil] at h3
    exact h3.mono hc hs
  refine ⟨U, ?_, .threw T.heap.size, hrun, hend, Or.inr ⟨T.heap.size, rfl, cls, ce, locs, hx U hWs.alike f1 (fun q hq => f2 q hq (fun z hz => nomatch hz)), hce, hO.vm, hcl, hWs, hall, hf⟩⟩
  refine st1 _ ?_
  show Steps p.tables e below (T1.setTop { method := m, pc := pc + 3, locals := ls, stack := .ref T.heap.size :: rest, locked := none }) _
  jvm_step X₁.here [X₁.here.top, hexec, d3', Value.category]
  exact X₁.ldcString hexec (own := own) (text := text) (index := is) (a := sa) hown' hstr'.1 hstr'.2
    (g := { method := m, pc := pc + 4, locals := ls, stack := .ref T.heap.size :: .ref T.heap.size :: rest, locked := none }) rfl d4' _ hsteps

theorem vx_throwSW {cc : ByteArray} {pc : Nat} (hexec : p.tables.exec = Jvm.exec) (hb : c.code = cc) (hl : l.stackTraces = false) {own cls text : String} {names : List String} {ik is ic mc ms sa : Nat} {A : Nat → Prop}
    (hown : s.vm.findClass own = some m.cls) (hcls : Bundle.fit cls = true) (hnames : ∀ n ∈ names, Bundle.fit n = true)
    (hk : (Cond.classLink own ik cls).before args s = true) (hini : (Cond.initialized cls).before args s = true) (hstr : vk_R own is text sa s) (hat : ∀ w ∈ vx_atS own ic cls names, w.before args s = true)
    (hgood : ∀ w ∈ Cond.classLink own ik cls :: Cond.initialized cls :: vx_atS own ic cls names, vx_ot w = true)
    (hU : vx_Zq Bundle.tN "UNASSIGNED_STACK" Bundle.steD A s s.heap) (hN : vx_Zq Bundle.tN "SUPPRESSED_SENTINEL" Bundle.listD A s s.heap) (hS : va_S A s.heap H locs) (hsize : ls.size = c.maxLocals)
    (d0 : decode cc pc = .ok (.new ik, 3)) (d3 : decode cc (pc + 3) = .ok (.dup, 1)) (d4 : decode cc (pc + 4) = .ok (.ldc_w is, 3)) (d7 : decode cc (pc + 7) = .ok (.invokespecial ic, 3)) (d10 : decode cc (pc + 10) = .ok (.athrow, 1))
    (hout : ∀ x ∈ c.exceptionTable.toList, covers x (pc + 10) = false)
    (hRframes : names.length + 3 < R.frames) (hRlocals : (rest.map fun v => v.category).sum + (13 * (names.length + 1) + 43) ≤ R.locals) (hRcells : cells + 1 ≤ R.cells) (hRslots : slots + 6 ≤ R.slots) (hlocks : meth.locks = false)
    (hx : ∀ t : State, s.vm.Alike t.vm → H.size ≤ t.heap.size → (∀ q : Nat, q < H.size → t.heap[q]? = H[q]?) → XC cls s t)
    (hf : ∀ z ∈ locs, free z.base) (hc : cells + 1 ≤ mc) (hs : slots + 6 ≤ ms) :
    W p l e R s m args below meth c H locs cells slots (vx_MQ below Qc XC args s mc ms free) (F0 m pc ls rest) := by
  intro T hT X
  have htr : e.platform.stackTraces = false := (show e.platform.stackTraces = l.stackTraces by rw [X.admits.platform]).trans hl
  have Y := vx_rebase X (R' := { frames := R.frames, locals := R.locals, cells := 1, slots := 6 }) (Nat.le_refl _) (Nat.le_refl _) hRcells hRslots
  obtain ⟨s', hA⟩ : ∃ z, z = (T.setVm s.vm).setFrames (.invoking m args :: below) := ⟨_, rfl⟩
  rw [← hA] at Y
  have hvm : s'.vm = s.vm := by rw [hA]; rfl
  have hhp : s'.heap = H := by rw [hA]; exact hT
  have hW0 : s.WarmedH s'.vm := by rw [hvm]; exact State.WarmedH.refl s
  have hat' : ∀ w ∈ vx_atS own ic cls names, w.before args s' = true := fun w hw => vx_ot_at hW0 hvm.symm (hgood w (List.mem_cons_of_mem _ (List.mem_cons_of_mem _ hw))) (hat w hw)
  have hk' : (Cond.classLink own ik cls).before args s' = true := vx_ot_at hW0 hvm.symm (hgood _ List.mem_cons_self) hk
  have hini' : (Cond.initialized cls).before args s' = true := vx_ot_at hW0 hvm.symm (hgood _ (List.mem_cons_of_mem _ List.mem_cons_self)) hini
  have hU' : vx_Zq Bundle.tN "UNASSIGNED_STACK" Bundle.steD A s' s'.heap := by rw [hhp]; exact vx_Zq.moved hW0.alike (hU.kept hS.2.1)
  have hN' : vx_Zq Bundle.tN "SUPPRESSED_SENTINEL" Bundle.listD A s' s'.heap := by rw [hhp]; exact vx_Zq.moved hW0.alike (hN.kept hS.2.1)
  have h : ∀ w ∈ Bundle.ownAtoms own ic cls names, w.before args s' = true := vx_own hat' (vx_isRefq hU'.1) (vx_isRefq hN'.1) hU'.2.word hN'.2.word
  have hown' : s'.vm.findClass own = some m.cls := by rw [hvm]; exact hown
  have hins : (Cond.instantiable cls 6).before args s' = true := h _ (by simp [Bundle.ownAtoms])
  obtain ⟨vm₁, cX, kX, hfX, hkX, -, -, X₁, st1⟩ := Y.newCold hexec (own := own) (C := cls) (index := ik) (n := 6) hown' hk' hins hini'
    (g := F0 m pc ls rest) rfl (by rw [hb]; exact d0) (Nat.le_refl _) (Nat.le_refl _)
  generalize hT1 : (T.setVm vm₁).pushCell { cls := cX, slots := kX.instanceTypes.map defaultValue, vm := .none } = T1 at X₁ st1
  have hcat : (Value.ref T.heap.size).category = 1 := rfl
  have hcellA : T1.heap[T.heap.size]? = some (freshCell cX kX) := by rw [← hT1]; exact State.heap_pushCell_size _ _
  have d3' : decode c.code (pc + 3) = .ok (.dup, 1) := by rw [hb]; exact d3
  have d4' : decode c.code (pc + 4) = .ok (.ldc_w is, 3) := by rw [hb]; exact d4
  have hstr' : vk_R own is text sa s' := vk_R.warm hW0 hstr
  obtain ⟨U, hsteps, hrun, hend, hW, hsame, ce, hce, hO⟩ := X₁.ctorThrowS hexec htr (own := own) (cls := cls) (names := names) (ic := ic) hown' hcls hnames h (fun x hx => nomatch hx) hfX hkX hcellA (by rw [hhp, hT]; exact Nat.le_refl _) (msg := .ref sa) rfl
    (g := { method := m, pc := pc + 7, locals := ls, stack := .ref sa :: .ref T.heap.size :: .ref T.heap.size :: rest, locked := none }) rfl hsize rfl rfl (rest := rest) rfl
    (by rw [hb]; exact d7) (by rw [hb]; exact d10) hout hRframes (by simp only [List.map_cons, List.sum_cons, hcat]; omega) hlocks
  obtain ⟨f1, f2⟩ := vx_frame hsame
  rw [hhp] at f1 f2
  have hWs : s.WarmedH U.vm := State.WarmedH.trans hW0 hW
  have hcl : s.vm.findClass cls = some ce.cls := by
    have h9 := hO.cls
    rw [hvm] at h9
    exact h9
  have hall : s.sameButNew ({ U with vm := s.vm } : State) locs mc ms := by
    subst hA
    obtain ⟨e1, e2⟩ := hsame
    rw [State.setFrames_setFrames] at e1
    have h2 : (T.setVm s.vm).sameButNew ({ U with vm := s.vm } : State) [] (0 + 1) (0 + 6) := ⟨e1, e2⟩
    have h3 := X.same.trans h2
    rw [List.append_nil] at h3
    exact h3.mono hc hs
  refine ⟨U, ?_, .threw T.heap.size, hrun, hend, Or.inr ⟨T.heap.size, rfl, cls, ce, locs, hx U hWs.alike f1 (fun q hq => f2 q hq (fun z hz => nomatch hz)), hce, hO.vm, hcl, hWs, hall, hf⟩⟩
  refine st1 _ ?_
  show Steps p.tables e below (T1.setTop { method := m, pc := pc + 3, locals := ls, stack := .ref T.heap.size :: rest, locked := none }) _
  jvm_step X₁.here [X₁.here.top, hexec, d3', Value.category]
  exact X₁.ldcStringW hexec (own := own) (text := text) (index := is) (a := sa) hown' hstr'.1 hstr'.2
    (g := { method := m, pc := pc + 4, locals := ls, stack := .ref T.heap.size :: .ref T.heap.size :: rest, locked := none }) rfl d4' _ hsteps
end Ends
section Bodies
variable {l : Launch}
theorem vx_ofW {y : MethodName} {ws ws' : List Cond} {rm : Room} {Pc : Array Value → State → Prop} {Qc : Array Value → State → Outcome → State → Prop} {XC : String → State → State → Prop} {mc ms : Nat} {free : Addr → Prop} {cc : ByteArray} {maxL : Nat} {ret : Option FieldType}
    (hy : plainName y.cls = true) (hw : ws = Cond.code y cc maxL ret :: ws')
    (body : ∀ p e s m args below meth c s₁, BodyLoose p l y (headSpec ws rm) cc maxL ret e s m args below meth c s₁ → c.maxLocals = maxL → (∀ x ∈ c.exceptionTable.toList, False) → Pc args s →
      W p l e (headSpec ws rm).room s m args below meth c s.heap [] 0 0 (vx_MQ below Qc XC args s mc ms free) (entryFrame m args maxL)) : vx_Met l y ws rm Pc Qc XC mc ms free := by
  refine MetFree.of_bodyS (code := cc) (maxLocals := maxL) (ret := ret) hy ?_ ?_
  · intro args s m h hn
    obtain ⟨meth, c, h1, h2, h3, h4, h5, h6, -, -⟩ := Cond.code_spec hn (atoms_spec (ws := ws) h _ (by rw [hw]; exact List.mem_cons_self))
    exact ⟨meth, c, h1, h2, h3, h4, h5, h6⟩
  · intro p e s m args below meth c s₁ B hml hP _
    have hh0 : s₁.heap = s.heap := by rw [B.state]; rfl
    have ht : ∀ x ∈ c.exceptionTable.toList, False := by
      obtain ⟨meth9, c9, h1, h2, -, -, -, -, h7, -⟩ := Cond.code_spec B.named (atoms_spec (ws := ws) B.pre _ (by rw [hw]; exact List.mem_cons_self))
      cases Option.some.inj (h1.symm.trans B.method)
      cases Option.some.inj (h2.symm.trans (Stand.of_body B).code)
      intro x hx
      rw [Array.isEmpty_iff.mp h7] at hx
      cases hx
    obtain ⟨t, a1, o, b1, b2, b3⟩ := body p e s m args below meth c s₁ B hml ht hP s₁ hh0 (Stand.of_body B)
    exact ⟨t, o, a1, b1, b2, b3⟩

theorem vx_table {p : Program} {x y : MethodName} {S : Spec} {cc bytes : ByteArray} {maxL maxL' : Nat} {ret ret' : Option FieldType} {e : Env} {s s₁ : State} {m : MethodId} {args : Array Value} {below : List Frame} {meth : Method} {c : Code} {hh : List (Nat × Nat × Nat × Nat)}
    (B : BodyLoose p l y S cc maxL ret e s m args below meth c s₁) (h : (Cond.codeWith y bytes maxL' ret' hh).before args s = true) : c.exceptionTable.toList = tableOf hh := by
  obtain ⟨m9, meth9, c9, hn9, h1, h2, -, -, h6, -⟩ := Cond.codeWith_spec h
  cases Option.some.inj (hn9.symm.trans B.named)
  cases Option.some.inj (h1.symm.trans B.method)
  cases Option.some.inj (h2.symm.trans (Stand.of_body B).code)
  rw [← h6, table_eq]
end Bodies
end VXA


section VXS
variable {p : Program} {l : Launch} {e : Env} {R : Room} {s : State} {m : MethodId} {args : Array Value} {below : List Frame} {meth : Method} {c : Code} {T : State} {H : Heap} {locs : List Loc} {cells slots : Nat}
abbrev vx_CSW (R : Room) (s : State) (args : Array Value) (own : String) (index : Nat) (y : MethodName) (bytes : ByteArray) (maxL : Nat) (ret : Option FieldType) (hh : List (Nat × Nat × Nat × Nat)) (ws : List Cond) (rm : Room) (mc ms n : Nat) : Prop :=
  (rm.cells = mc ∧ rm.slots = ms ∧ rm.frames + 1 ≤ R.frames ∧ 8 + (maxL + 11) + rm.locals ≤ R.locals ∧ (∀ w ∈ ws, ∀ (a' : Array Value) (U : State), s.WarmedH U.vm → w.before a' U = true) ∧ Cond.codeWith y bytes maxL ret hh ∈ ws) ∧
  (Cond.codeWith y bytes maxL ret hh).before args s = true ∧ (Cond.initialized y.cls).before args s = true ∧ (y.cls ≠ "java/lang/invoke/MethodHandle" ∧ y.cls ≠ "java/lang/invoke/VarHandle") ∧
  (∀ sig, parseMethodDescriptor y.desc = some sig → n = sig.parameters.length) ∧ (Cond.methodLink own index y).before args s = true ∧ (Cond.static y).before args s = true
theorem vx_cwSW {own : String} {index maxL mc ms : Nat} {y : MethodName} {bytes : ByteArray} {ret : Option FieldType} {hh : List (Nat × Nat × Nat × Nat)} {Ts ws ws' : List Cond} {rm : Room} (n : Nat) (ht : ∀ w ∈ Ts, w.before args s = true) (hT : GoodIn Ts (va_wsS own index y ws)) (hw : ws = Cond.codeWith y bytes maxL ret hh :: ws') (hrc : rm.cells = mc) (hrs : rm.slots = ms)
    (hd : y.cls ≠ "java/lang/invoke/MethodHandle" ∧ y.cls ≠ "java/lang/invoke/VarHandle" ∧ (parseMethodDescriptor y.desc).map (fun d => d.parameters.length) = some n) (hR : rm.frames + 1 ≤ R.frames ∧ 8 + (maxL + 11) + rm.locals ≤ R.locals) :
    vx_CSW R s args own index y bytes maxL ret hh ws rm mc ms n := by
  have ok : ∀ w ∈ va_wsS own index y ws, w.before args s = true := fun w h => ht w (hT w h).1
  have hG : GoodIn Ts ws := fun w h => hT w (by unfold va_wsS; exact List.mem_append_right _ h)
  have hc : Cond.codeWith y bytes maxL ret hh ∈ ws := by rw [hw]; exact List.mem_cons_self
  refine ⟨⟨hrc, hrs, hR.1, hR.2, pay_in ht hG, hc⟩, ht _ (hG _ hc).1, ok _ (by simp [va_wsS]), ⟨hd.1, hd.2.1⟩, fun sig h => ?_, ok _ (by simp [va_wsS]), ok _ (by simp [va_wsS])⟩
  have h2 := hd.2.2
  rw [h] at h2
  exact (Option.some.inj h2).symm
theorem vx_callSW (X : Stand p l e R s m args below meth c T locs cells slots) (hexec : p.tables.exec = Jvm.exec) {own : String} {index : Nat} {y : MethodName} {bytes : ByteArray} {maxL : Nat} {ret : Option FieldType} {hh : List (Nat × Nat × Nat × Nat)}
    (hown : s.vm.findClass own = some m.cls) (hlink : (Cond.methodLink own index y).before args s = true) (hstat : (Cond.static y).before args s = true) (hinit : (Cond.initialized y.cls).before args s = true)
    (hcode : (Cond.codeWith y bytes maxL ret hh).before args s = true) (hy : y.cls ≠ "java/lang/invoke/MethodHandle" ∧ y.cls ≠ "java/lang/invoke/VarHandle")
    {W9 : Nat} {Pre : Pt → Array Value → Prop} {Post : Pt → Array Value → Option Value → Pt → Prop} (hK : Back l R p e below s args y 3 W9 Pre Post)
    {g : JFrame} (hg : g.method = m) (hsize : g.locals.size = c.maxLocals) {argsL rest : List Value} (hlen : ∀ sig, parseMethodDescriptor y.desc = some sig → argsL.length = sig.parameters.length)
    (hstack : g.stack = argsL.reverse ++ rest) (hW : 2 * g.monitorRoom + (rest.map fun v => v.category).sum ≤ W9) (hdg : decode c.code g.pc = .ok (.invokestatic index, 3))
    (hpre : ∀ vm₁, s.WarmedH vm₁ → Pre ⟨T.setVm vm₁, locs, cells, slots⟩ argsL.toArray) :
    ∃ (v : Option Value) (vm₁ : Vm) (B : Pt), s.WarmedH vm₁ ∧ Stand p l e R s m args below meth c B.U B.locs B.cells B.slots ∧ Post ⟨T.setVm vm₁, locs, cells, slots⟩ argsL.toArray v B ∧
      ∀ target, Steps p.tables e below (B.U.setTop { g with pc := g.pc + 3, stack := v.toList ++ rest }) target → Steps p.tables e below (T.setTop g) target := by
  obtain ⟨mk, methM, cM, hnamed, hmethM, -, -, -, -, -, -, hsigM⟩ := Cond.codeWith_spec hcode
  have hstatic : methM.isStatic = true := Cond.static_spec hnamed hmethM hstat
  obtain ⟨kP, hkP, -⟩ := className_of_methodNamed hnamed
  have hinitP : kP.init = .initialized := Cond.initialized_spec (findClass_of_methodNamed hnamed) hkP hinit
  obtain ⟨vm₁, X₁, hstep₁⟩ := X.invokestatic hexec hown hlink hnamed hmethM hstatic hkP hinitP hy (g := g) hg (argsL := argsL) (rest := rest) (hlen _ hsigM) hstack hdg
  obtain ⟨v, B, X', hpost, hsteps⟩ := hK m meth c ⟨T.setVm vm₁, locs, cells, slots⟩ { g with stack := rest } (.invokestatic index) mk argsL.toArray X₁ hg hsize hdg hW (X₁.named hnamed) (hpre vm₁ X₁.warmed)
  exact ⟨v, vm₁, B, X₁.warmed, X', hpost, fun target h => hstep₁ _ fun acts => by rw [doInvoke_state]; exact hsteps.trans h⟩
theorem vx_runSW {y : MethodName} {bytes cc : ByteArray} {maxL nL mc ms n index : Nat} {ret : Option FieldType} {hh : List (Nat × Nat × Nat × Nat)} {ws : List Cond} {rm : Room} {Pc : Array Value → State → Prop} {Qc : Array Value → State → Outcome → State → Prop} {free : Addr → Prop} {Ts : List Cond} {own : String} {As rest : List Value} {g : JFrame}
    (S : CallFix p m c cc nL s args Ts own) (hM : Met l y ws rm Pc Qc mc ms free) (cw : vx_CSW R s args own index y bytes maxL ret hh ws rm mc ms n) (hp : PreS s H Pc As)
    (hg : g.method = m) (hn : As.length = n) (hsize : g.locals.size = nL) (hstack : g.stack = As.reverse ++ rest) (hW : 2 * g.monitorRoom + (rest.map fun v => v.category).sum ≤ 8) (hdg : decode cc g.pc = .ok (.invokestatic index, 3)) (hf : cells + mc ≤ R.cells ∧ slots + ms ≤ R.slots) :
    va_Run p l e R s m args below meth c H locs cells slots mc ms g rest (Qc As.toArray) (free) := by
  obtain ⟨⟨hrc, hrs, hfr, hlo, hws, hcw⟩, hcode, hini, hy, hlen, hl, hstt⟩ := cw
  have hK : Back l R p e below s args y 3 8 (PreOf R mc ms Pc) (PostOf Qc mc ms free) := va_backW (hh := hh) (bytes := bytes) (maxL := maxL) (ret := ret) hM hp.1 hrc hrs hfr hlo hws hcw (fun a' U hW => word_at hW (Or.inl (by first | rfl | simp [Cond.onTables, Cond.keeps, Cond.steady])) hini)
  obtain ⟨hx, hb, hml, ho, -⟩ := S
  intro T hT X
  obtain ⟨v, vm₁, ⟨U', l2, c2, s2⟩, hW₁, X', ⟨g', mk, t, L, e1, e2, hq, h1, hL, h2, h3⟩, st⟩ := vx_callSW X hx (hh := hh) (bytes := bytes) (maxL := maxL) (ret := ret) ho hl hstt hini hcode hy hK hg (hsize.trans hml.symm) (argsL := As) (rest := rest) (fun sig h => hn.trans (hlen sig h)) hstack hW (by rw [hb]; exact hdg)
    (fun vm₁ hW₁ => ⟨hf.1, hf.2, hp.2 (T.setVm vm₁) hT hW₁⟩)
  dsimp only [Pt.U, Pt.locs, Pt.cells, Pt.slots] at X' e1 e2 h1 h2 h3 st
  subst h1; subst h2; subst h3
  exact ⟨v, (T.setVm vm₁).calling g' mk As.toArray, t, U', L, hT, X', hL, e1, e2, hq, st⟩

theorem vx_outP {p : Program} {l : Launch} {e : Env} {R : Room} {s : State} {m : MethodId} {args : Array Value} {below : List Frame} {meth : Method} {c : Code} {H : Heap} {locs : List Loc} {cells slots : Nat} {free : Addr → Prop} {ls : Array Slot} {rest : List Value} {Qc : Array Value → State → Outcome → State → Prop} {XC : String → State → State → Prop}
    {pc : Nat} {own E : String} {ce : Cell} {q : Addr} {mc ms : Nat} (hown : s.vm.findClass own = some m.cls) (hlocks : meth.locks = false)
    (hpass : ∀ z ∈ c.exceptionTable.toList, covers z pc = false ∨ (z.catchType ≠ 0 ∧ ∃ nm : String, (Cond.classLink own z.catchType nm).before args s = true ∧ va_Nc E nm s)) (hcell : H[q]? = some ce) (hv : ce.vm = .none) (hcl : s.vm.findClass E = some ce.cls)
    (hx : ∀ t : State, t.heap = H → s.vm.Alike t.vm → XC E s t) (hf : ∀ z ∈ locs, free z.base) (hc : cells ≤ mc) (hs : slots ≤ ms) :
    vx_W p l e R s m args below meth c H locs cells slots (vx_MQ below Qc XC args s mc ms free) (F0 m pc ls rest) q := by
  intro T hT X
  have hpl : e.platform.magicAccessors = ({} : Platform).magicAccessors := by rw [X.admits.platform]
  obtain ⟨vm', hW', X', st⟩ := X.outThrough hlocks q (g := F0 m pc ls rest) rfl rfl rfl (cell := ce) (by rw [hT]; exact hcell) (by rw [hv]; rfl)
    (by obtain ⟨k9, h9, -⟩ := Vm.findClass_spec hcl; exact ⟨k9, h9⟩) (fun z hz => by
      rcases hpass z hz with h | ⟨hz0, nm, hl1, hn1⟩
      · exact Or.inl h
      · obtain ⟨c6, hc6, hcl6⟩ := Cond.classLink_spec hown hl1 e.platform hpl
        obtain ⟨a8, b8, h1, h2, h3⟩ := hn1
        cases Option.some.inj (h1.symm.trans hcl)
        cases Option.some.inj (h2.symm.trans hc6)
        exact Or.inr ⟨hz0, _, hcl6, h3⟩)
  obtain ⟨g₀, hfr⟩ := X'.frames_eq
  have hcell9 : ((T.setVm vm').setFrames (.throwing q :: below)).heap[q]? = some ce := by
    show T.heap[q]? = some ce
    rw [hT]; exact hcell
  have hend : Ended ((T.setVm vm').setFrames (.throwing q :: below)) below (.threw q) := State.frames_setFrames _ (State.cur_lt_of_frames hfr)
  refine ⟨(T.setVm vm').setFrames (.throwing q :: below), ?_, .threw q, X'.here.running, hend, Or.inr ⟨q, rfl, E, ce, locs, hx _ hT (X'.ends _).1.alike, hcell9, hv, hcl, (X'.ends _).1, (X'.ends _).2.mono hc hs, hf⟩⟩
  rw [X.pushThrowing_eq]
  exact st

theorem vx_lt {D : va_G} {cl : List vw_C} {ws : va_W} {H1 : Heap} (h : va_P D cl ws H1) {k : Nat} {q : Nat × va_E} (hk : ws[k]? = some q) : q.1 < H1.size := (h k q hk).lt
end VXS


section VXH

section
variable {l : Launch} {R : Room} {p : Program} {e : Env} {below : List Frame} {s : State} {sargs : Array Value} {y : MethodName} {len W9 : Nat}
theorem vx_backW {ws : List Cond} {rm : Room} {Pc : Array Value → State → Prop} {Qc : Array Value → State → Outcome → State → Prop} {XC : String → State → State → Prop} {mc ms : Nat} {free : Addr → Prop} {bytes : ByteArray} {maxL : Nat} {ret : Option FieldType} {hh : List (Nat × Nat × Nat × Nat)}
    (hM : vx_Met l y ws rm Pc Qc XC mc ms free) (hblind : FrameBlind Pc) (hrc : rm.cells = mc) (hrs : rm.slots = ms)
    (hframes : rm.frames + 1 ≤ R.frames) (hlocals : W9 + (maxL + 11) + rm.locals ≤ R.locals)
    (hws : ∀ w ∈ ws, ∀ a' U, s.WarmedH U.vm → w.before a' U = true) (hcode : Cond.codeWith y bytes maxL ret hh ∈ ws) (hinit : ∀ a' U, s.WarmedH U.vm → (Cond.initialized y.cls).before a' U = true) :
    vx_Back l R p e below s sargs y len W9 (PreOf R mc ms Pc) (PostOf Qc mc ms free) (vx_Post XC mc ms free) := by
  intro m meth c A g ig mk a X hg hsize hdg hW hn hp
  have h1 : (headSpec ws rm).pre.before a A.U = true := atoms_intro fun w hw => hws w hw _ _ X.warmed
  have h2 : (Cond.codeWith y bytes maxL ret hh).before a A.U = true := hws _ hcode _ _ X.warmed
  have h3 : (Cond.initialized y.cls).before a A.U = true := hinit _ _ X.warmed
  have h4 : A.cells + (headSpec ws rm).room.cells ≤ R.cells := by rw [show (headSpec ws rm).room.cells = mc from hrc]; exact hp.1
  have h5 : A.slots + (headSpec ws rm).room.slots ≤ R.slots := by rw [show (headSpec ws rm).room.slots = ms from hrs]; exact hp.2.1
  have hPc : Pc a (A.U.calling g mk a) := hblind _ _ _ _ hp.2.2
  obtain ⟨U, Ls, c0, s0⟩ := A
  dsimp only [Pt.U, Pt.locs, Pt.cells, Pt.slots] at h1 h2 h3 h4 h5 X hn hPc ⊢
  obtain ⟨m9, methY, cY, hn9, hmY, hcY, -, hlY, -⟩ := Cond.codeWith_spec h2
  cases Option.some.inj (hn9.symm.trans hn)
  obtain ⟨kY, hkY, -⟩ := className_of_methodNamed hn
  have hinitY : kY.init = .initialized := Cond.initialized_spec (findClass_of_methodNamed hn) hkY h3
  have h : At U g.method c below := by rw [hg]; exact X.here
  have hlocals9 : W9 + (maxL + 11) + (headSpec ws rm).room.locals ≤ R.locals := hlocals
  have happ : (headSpec ws rm).appliesLoose y e.platform (U.calling g mk a) = true :=
    Spec.appliesLoose_calling (g := g) h hdg hn hkY hinitY
      (X.room_calling (g := g) (R' := (headSpec ws rm).room) hsize hmY hcY hframes (by rw [hlY]; omega) h4 h5) h1
  obtain ⟨mid, hmid⟩ := h.above
  have hfr : (U.setTop g).frames = (.java g :: mid) ++ below := by rw [State.frames_setTop' g h.top, hmid]; rfl
  obtain ⟨o, s₂, hsteps, -, hend, hq⟩ := Steps.callFree hM p X.admits X.cas X.clock (acts := []) hfr happ hPc trivial
  have hq' : vx_Q Qc XC mc ms free a (U.calling g mk a) o s₂ := hq
  rw [State.frames_setTop' g h.top] at hend
  obtain ⟨g₀, hg0⟩ := Option.isSome_iff_exists.mp h.top
  obtain ⟨r, hr⟩ := State.topJava?_eq_some.mp hg0
  have hr' : (({ U with heap := s₂.heap, slotsUsed := s₂.slotsUsed } : State).setVm s₂.vm).frames = .java g₀ :: r := hr
  rcases hq' with ⟨hqc, L, hfe, hL⟩ | ⟨q, rfl, E, ce, L, hx, hce, hcv, hcl, hW₂, hsm, hL⟩
  · obtain ⟨⟨v, rfl⟩, hW₂, e2, q2, q3, q4, q5, q6⟩ := id hfe
    have e3 : s₂ = ({ (U.calling g mk a).setFrames s₂.frames with heap := s₂.heap, slotsUsed := s₂.slotsUsed } : State).setVm s₂.vm := by
      have : s₂ = ({ s₂ with vm := (U.calling g mk a).vm } : State).setVm s₂.vm := rfl
      rw [e2] at this
      exact this
    obtain ⟨c₂, i₂, len₂, hc₂, hd₂, hf₂⟩ := hend
    have hW' : U.WarmedH s₂.vm := hW₂
    have hcc : c₂ = c := by
      have h1 : s₂.code? g.method = U.code? g.method := by
        rw [State.code?_eq, State.code?_eq, hW'.alike.method?]
      exact Option.some.inj (hc₂.symm.trans (h1.trans h.code))
    subst hcc
    have hlen : len₂ = len := by rw [hdg] at hd₂; cases hd₂; rfl
    subst hlen
    have hs₂ : s₂ = (({ U with heap := s₂.heap, slotsUsed := s₂.slotsUsed } : State).setVm s₂.vm).setTop { g with pc := g.pc + len₂, stack := v.toList ++ g.stack } := by
      refine e3.trans ?_
      rw [hf₂, State.calling_eq h.top, State.setFrames_setFrames, State.setTop_of_frames _ hr', hr]
      rfl
    have hsame : U.sameButNew ({ U with heap := s₂.heap, slotsUsed := s₂.slotsUsed } : State) L mc ms := by
      refine ⟨?_, q2, q3, q4, q5, q6⟩
      obtain ⟨t, ht, -⟩ := State.frames_cons hr
      show ({ U with heap := s₂.heap, slotsUsed := s₂.slotsUsed } : State) = { U.setFrames U.frames with heap := s₂.heap, slotsUsed := s₂.slotsUsed }
      rw [State.setFrames_self ht]
    subst hg
    refine Or.inl ⟨v, ⟨(({ U with heap := s₂.heap, slotsUsed := s₂.slotsUsed } : State).setVm s₂.vm), Ls ++ L, c0 + mc, s0 + ms⟩,
      ⟨X.admits, X.cas, X.clock, X.frames, X.room, X.hears, X.method, X.code, (X.here.setHeapUsed s₂.heap s₂.slotsUsed).setVm hW'.alike, X.tail, State.WarmedH.trans X.warmed hW', X.limits, X.bytes, X.same.trans (hsame.setVm s.vm)⟩,
      ⟨g, mk, s₂, L, rfl, rfl, hqc, rfl, hL, rfl, rfl⟩, ?_⟩
    show Steps p.tables e below _ ((({ U with heap := s₂.heap, slotsUsed := s₂.slotsUsed } : State).setVm s₂.vm).setTop { g with pc := g.pc + len₂, stack := v.toList ++ g.stack })
    rw [← hs₂]
    exact hsteps
  · obtain ⟨e2, q2, q3, q4, q5, q6⟩ := id hsm
    have e3 : s₂ = ({ (U.calling g mk a).setFrames s₂.frames with heap := s₂.heap, slotsUsed := s₂.slotsUsed } : State).setVm s₂.vm := by
      have : s₂ = ({ s₂ with vm := (U.calling g mk a).vm } : State).setVm s₂.vm := rfl
      rw [e2] at this
      exact this
    have hf₂ : s₂.frames = .throwing q :: .java g :: U.frames.tail := hend
    have hW' : U.WarmedH s₂.vm := hW₂
    have hs₂ : s₂ = ((({ U with heap := s₂.heap, slotsUsed := s₂.slotsUsed } : State).setVm s₂.vm).setTop g).pushFrame (.throwing q) := by
      refine e3.trans ?_
      rw [hf₂, State.calling_eq h.top, State.setFrames_setFrames, State.pushFrame, State.frames_setTop _ hr', State.setTop_of_frames _ hr', State.setFrames_setFrames, hr]
      rfl
    have hsame : U.sameButNew ({ U with heap := s₂.heap, slotsUsed := s₂.slotsUsed } : State) L mc ms := by
      refine ⟨?_, q2, q3, q4, q5, q6⟩
      obtain ⟨t, ht, -⟩ := State.frames_cons hr
      show ({ U with heap := s₂.heap, slotsUsed := s₂.slotsUsed } : State) = { U.setFrames U.frames with heap := s₂.heap, slotsUsed := s₂.slotsUsed }
      rw [State.setFrames_self ht]
    subst hg
    refine Or.inr ⟨q, ⟨(({ U with heap := s₂.heap, slotsUsed := s₂.slotsUsed } : State).setVm s₂.vm), Ls ++ L, c0 + mc, s0 + ms⟩,
      ⟨X.admits, X.cas, X.clock, X.frames, X.room, X.hears, X.method, X.code, (X.here.setHeapUsed s₂.heap s₂.slotsUsed).setVm hW'.alike, X.tail, State.WarmedH.trans X.warmed hW', X.limits, X.bytes, X.same.trans (hsame.setVm s.vm)⟩,
      ⟨g, mk, s₂, L, E, ce, rfl, rfl, hx, hce, hcv, hcl, rfl, hL, rfl, rfl⟩, ?_⟩
    show Steps p.tables e below _ (((({ U with heap := s₂.heap, slotsUsed := s₂.slotsUsed } : State).setVm s₂.vm).setTop g).pushFrame (.throwing q))
    rw [← hs₂]
    exact hsteps
end
variable {p : Program} {l : Launch} {e : Env} {R : Room} {s : State} {m : MethodId} {args : Array Value} {below : List Frame} {meth : Method} {c : Code} {T : State} {H : Heap} {locs : List Loc} {cells slots : Nat}
theorem vx_callVX (X : Stand p l e R s m args below meth c T locs cells slots) (hexec : p.tables.exec = Jvm.exec) {own C : String} {index : Nat} {y : MethodName} {bytes : ByteArray} {maxL : Nat} {ret : Option FieldType} {hh : List (Nat × Nat × Nat × Nat)}
    (hown : s.vm.findClass own = some m.cls) (hlink : (Cond.methodLink own index y).before args s = true) (hinst : (Cond.instanceMethod y).before args s = true) (hsel : (Cond.selects C y y).before args s = true)
    (hcode : (Cond.codeWith y bytes maxL ret hh).before args s = true) (hy : y.cls ≠ "java/lang/invoke/MethodHandle" ∧ y.cls ≠ "java/lang/invoke/VarHandle")
    {W9 : Nat} {Pre : Pt → Array Value → Prop} {Post : Pt → Array Value → Option Value → Pt → Prop} {PostX : Pt → Array Value → Addr → Pt → Prop} (hK : vx_Back l R p e below s args y 3 W9 Pre Post PostX)
    {b : Addr} {cellB : Cell} (hcell : T.heap[b]? = some cellB) (hobj : cellB.vm.isStatics = false) (hcls : s.vm.findClass C = some cellB.cls)
    {g : JFrame} (hg : g.method = m) (hsize : g.locals.size = c.maxLocals) {argsL rest : List Value} (hlen : ∀ sig, parseMethodDescriptor y.desc = some sig → argsL.length = sig.parameters.length)
    (hstack : g.stack = argsL.reverse ++ .ref b :: rest) (hW : 2 * g.monitorRoom + (rest.map fun v => v.category).sum ≤ W9) (hdg : decode c.code g.pc = .ok (.invokevirtual index, 3))
    (hpre : ∀ vm₁, s.WarmedH vm₁ → Pre ⟨T.setVm vm₁, locs, cells, slots⟩ (Value.ref b :: argsL).toArray) :
    (∃ (v : Option Value) (vm₁ : Vm) (B : Pt), s.WarmedH vm₁ ∧ Stand p l e R s m args below meth c B.U B.locs B.cells B.slots ∧ Post ⟨T.setVm vm₁, locs, cells, slots⟩ (Value.ref b :: argsL).toArray v B ∧
      ∀ target, Steps p.tables e below (B.U.setTop { g with pc := g.pc + 3, stack := v.toList ++ rest }) target → Steps p.tables e below (T.setTop g) target) ∨
    (∃ (q : Addr) (vm₁ : Vm) (B : Pt), s.WarmedH vm₁ ∧ Stand p l e R s m args below meth c B.U B.locs B.cells B.slots ∧ PostX ⟨T.setVm vm₁, locs, cells, slots⟩ (Value.ref b :: argsL).toArray q B ∧
      Steps p.tables e below (T.setTop g) ((B.U.setTop { g with stack := rest }).pushFrame (.throwing q))) := by
  obtain ⟨mk, methM, hnamed, hmethM, hstM, habM⟩ := Cond.instanceMethod_spec hinst
  obtain ⟨m8, methM', cM, hn8, hmethM', -, -, -, -, -, -, hsigM⟩ := Cond.codeWith_spec hcode
  cases Option.some.inj (hn8.symm.trans hnamed)
  cases hmethM.symm.trans hmethM'
  obtain ⟨c2, r2, m2, q1, q2, q3, q4, kP, hkP, hkPi⟩ := Cond.selects_spec hsel
  cases hcls.symm.trans q1
  cases (State.methodFound?_of_named hnamed hy).symm.trans q2
  cases hnamed.symm.trans q3
  have hselP : selectMethod e.platform s.vm cellB.cls mk = .method mk := by rw [Launch.admits_selectMethod X.admits]; exact q4
  obtain ⟨vm₁, X₁, hstep₁⟩ := X.invokevirtual hexec hown hlink hnamed hmethM hstM hkP hkPi hy (a := b) (cell := cellB) hcell
    (fun z h => by rw [h] at hobj; cases hobj) hselP hmethM habM hkP hkPi (g := g) hg (argsL := argsL) (rest := rest) (hlen _ hsigM) hstack hdg
  rcases hK m meth c ⟨T.setVm vm₁, locs, cells, slots⟩ { g with stack := rest } (.invokevirtual index) mk (Value.ref b :: argsL).toArray X₁ hg hsize hdg hW (X₁.named hnamed) (hpre vm₁ X₁.warmed) with ⟨v, B, X', hpost, hsteps⟩ | ⟨q, B, X', hpost, hsteps⟩
  · exact Or.inl ⟨v, vm₁, B, X₁.warmed, X', hpost, fun target h => hstep₁ _ fun acts => by rw [doInvoke_state]; exact hsteps.trans h⟩
  · exact Or.inr ⟨q, vm₁, B, X₁.warmed, X', hpost, hstep₁ _ fun acts => by rw [doInvoke_state]; exact hsteps⟩
theorem vx_callSX (X : Stand p l e R s m args below meth c T locs cells slots) (hexec : p.tables.exec = Jvm.exec) {own : String} {index : Nat} {y : MethodName} {bytes : ByteArray} {maxL : Nat} {ret : Option FieldType} {hh : List (Nat × Nat × Nat × Nat)}
    (hown : s.vm.findClass own = some m.cls) (hlink : (Cond.methodLink own index y).before args s = true) (hstat : (Cond.static y).before args s = true) (hinit : (Cond.initialized y.cls).before args s = true)
    (hcode : (Cond.codeWith y bytes maxL ret hh).before args s = true) (hy : y.cls ≠ "java/lang/invoke/MethodHandle" ∧ y.cls ≠ "java/lang/invoke/VarHandle")
    {W9 : Nat} {Pre : Pt → Array Value → Prop} {Post : Pt → Array Value → Option Value → Pt → Prop} {PostX : Pt → Array Value → Addr → Pt → Prop} (hK : vx_Back l R p e below s args y 3 W9 Pre Post PostX)
    {g : JFrame} (hg : g.method = m) (hsize : g.locals.size = c.maxLocals) {argsL rest : List Value} (hlen : ∀ sig, parseMethodDescriptor y.desc = some sig → argsL.length = sig.parameters.length)
    (hstack : g.stack = argsL.reverse ++ rest) (hW : 2 * g.monitorRoom + (rest.map fun v => v.category).sum ≤ W9) (hdg : decode c.code g.pc = .ok (.invokestatic index, 3))
    (hpre : ∀ vm₁, s.WarmedH vm₁ → Pre ⟨T.setVm vm₁, locs, cells, slots⟩ argsL.toArray) :
    (∃ (v : Option Value) (vm₁ : Vm) (B : Pt), s.WarmedH vm₁ ∧ Stand p l e R s m args below meth c B.U B.locs B.cells B.slots ∧ Post ⟨T.setVm vm₁, locs, cells, slots⟩ argsL.toArray v B ∧
      ∀ target, Steps p.tables e below (B.U.setTop { g with pc := g.pc + 3, stack := v.toList ++ rest }) target → Steps p.tables e below (T.setTop g) target) ∨
    (∃ (q : Addr) (vm₁ : Vm) (B : Pt), s.WarmedH vm₁ ∧ Stand p l e R s m args below meth c B.U B.locs B.cells B.slots ∧ PostX ⟨T.setVm vm₁, locs, cells, slots⟩ argsL.toArray q B ∧
      Steps p.tables e below (T.setTop g) ((B.U.setTop { g with stack := rest }).pushFrame (.throwing q))) := by
  obtain ⟨mk, methM, cM, hnamed, hmethM, -, -, -, -, -, -, hsigM⟩ := Cond.codeWith_spec hcode
  have hstatic : methM.isStatic = true := Cond.static_spec hnamed hmethM hstat
  obtain ⟨kP, hkP, -⟩ := className_of_methodNamed hnamed
  have hinitP : kP.init = .initialized := Cond.initialized_spec (findClass_of_methodNamed hnamed) hkP hinit
  obtain ⟨vm₁, X₁, hstep₁⟩ := X.invokestatic hexec hown hlink hnamed hmethM hstatic hkP hinitP hy (g := g) hg (argsL := argsL) (rest := rest) (hlen _ hsigM) hstack hdg
  rcases hK m meth c ⟨T.setVm vm₁, locs, cells, slots⟩ { g with stack := rest } (.invokestatic index) mk argsL.toArray X₁ hg hsize hdg hW (X₁.named hnamed) (hpre vm₁ X₁.warmed) with ⟨v, B, X', hpost, hsteps⟩ | ⟨q, B, X', hpost, hsteps⟩
  · exact Or.inl ⟨v, vm₁, B, X₁.warmed, X', hpost, fun target h => hstep₁ _ fun acts => by rw [doInvoke_state]; exact hsteps.trans h⟩
  · exact Or.inr ⟨q, vm₁, B, X₁.warmed, X', hpost, hstep₁ _ fun acts => by rw [doInvoke_state]; exact hsteps⟩
theorem vx_callVW (X : Stand p l e R s m args below meth c T locs cells slots) (hexec : p.tables.exec = Jvm.exec) {own C : String} {index : Nat} {y : MethodName} {bytes : ByteArray} {maxL : Nat} {ret : Option FieldType} {hh : List (Nat × Nat × Nat × Nat)}
    (hown : s.vm.findClass own = some m.cls) (hlink : (Cond.methodLink own index y).before args s = true) (hinst : (Cond.instanceMethod y).before args s = true) (hsel : (Cond.selects C y y).before args s = true)
    (hcode : (Cond.codeWith y bytes maxL ret hh).before args s = true) (hy : y.cls ≠ "java/lang/invoke/MethodHandle" ∧ y.cls ≠ "java/lang/invoke/VarHandle")
    {W9 : Nat} {Pre : Pt → Array Value → Prop} {Post : Pt → Array Value → Option Value → Pt → Prop} (hK : Back l R p e below s args y 3 W9 Pre Post)
    {b : Addr} {cellB : Cell} (hcell : T.heap[b]? = some cellB) (hobj : cellB.vm.isStatics = false) (hcls : s.vm.findClass C = some cellB.cls)
    {g : JFrame} (hg : g.method = m) (hsize : g.locals.size = c.maxLocals) {argsL rest : List Value} (hlen : ∀ sig, parseMethodDescriptor y.desc = some sig → argsL.length = sig.parameters.length)
    (hstack : g.stack = argsL.reverse ++ .ref b :: rest) (hW : 2 * g.monitorRoom + (rest.map fun v => v.category).sum ≤ W9) (hdg : decode c.code g.pc = .ok (.invokevirtual index, 3))
    (hpre : ∀ vm₁, s.WarmedH vm₁ → Pre ⟨T.setVm vm₁, locs, cells, slots⟩ (Value.ref b :: argsL).toArray) :
    ∃ (v : Option Value) (vm₁ : Vm) (B : Pt), s.WarmedH vm₁ ∧ Stand p l e R s m args below meth c B.U B.locs B.cells B.slots ∧ Post ⟨T.setVm vm₁, locs, cells, slots⟩ (Value.ref b :: argsL).toArray v B ∧
      ∀ target, Steps p.tables e below (B.U.setTop { g with pc := g.pc + 3, stack := v.toList ++ rest }) target → Steps p.tables e below (T.setTop g) target := by
  obtain ⟨mk, methM, hnamed, hmethM, hstM, habM⟩ := Cond.instanceMethod_spec hinst
  obtain ⟨m8, methM', cM, hn8, hmethM', -, -, -, -, -, -, hsigM⟩ := Cond.codeWith_spec hcode
  cases Option.some.inj (hn8.symm.trans hnamed)
  cases hmethM.symm.trans hmethM'
  obtain ⟨c2, r2, m2, q1, q2, q3, q4, kP, hkP, hkPi⟩ := Cond.selects_spec hsel
  cases hcls.symm.trans q1
  cases (State.methodFound?_of_named hnamed hy).symm.trans q2
  cases hnamed.symm.trans q3
  have hselP : selectMethod e.platform s.vm cellB.cls mk = .method mk := by rw [Launch.admits_selectMethod X.admits]; exact q4
  obtain ⟨vm₁, X₁, hstep₁⟩ := X.invokevirtual hexec hown hlink hnamed hmethM hstM hkP hkPi hy (a := b) (cell := cellB) hcell
    (fun z h => by rw [h] at hobj; cases hobj) hselP hmethM habM hkP hkPi (g := g) hg (argsL := argsL) (rest := rest) (hlen _ hsigM) hstack hdg
  obtain ⟨v, B, X', hpost, hsteps⟩ := hK m meth c ⟨T.setVm vm₁, locs, cells, slots⟩ { g with stack := rest } (.invokevirtual index) mk (Value.ref b :: argsL).toArray X₁ hg hsize hdg hW (X₁.named hnamed) (hpre vm₁ X₁.warmed)
  exact ⟨v, vm₁, B, X₁.warmed, X', hpost, fun target h => hstep₁ _ fun acts => by rw [doInvoke_state]; exact hsteps.trans h⟩
abbrev vx_CVW (R : Room) (s : State) (args : Array Value) (own C : String) (index : Nat) (y : MethodName) (bytes : ByteArray) (maxL : Nat) (ret : Option FieldType) (hh : List (Nat × Nat × Nat × Nat)) (ws : List Cond) (rm : Room) (mc ms n : Nat) : Prop :=
  (rm.cells = mc ∧ rm.slots = ms ∧ rm.frames + 1 ≤ R.frames ∧ 8 + (maxL + 11) + rm.locals ≤ R.locals ∧ (∀ w ∈ ws, ∀ (a' : Array Value) (U : State), s.WarmedH U.vm → w.before a' U = true) ∧ Cond.codeWith y bytes maxL ret hh ∈ ws) ∧
  (Cond.codeWith y bytes maxL ret hh).before args s = true ∧ (Cond.initialized y.cls).before args s = true ∧ (y.cls ≠ "java/lang/invoke/MethodHandle" ∧ y.cls ≠ "java/lang/invoke/VarHandle") ∧
  (∀ sig, parseMethodDescriptor y.desc = some sig → n = sig.parameters.length) ∧ (Cond.methodLink own index y).before args s = true ∧ (Cond.instanceMethod y).before args s = true ∧ (Cond.selects C y y).before args s = true
theorem vx_cwVW {own C : String} {index maxL mc ms : Nat} {y : MethodName} {bytes : ByteArray} {ret : Option FieldType} {hh : List (Nat × Nat × Nat × Nat)} {Ts ws ws' : List Cond} {rm : Room} (n : Nat) (ht : ∀ w ∈ Ts, w.before args s = true) (hT : GoodIn Ts (wsV own index C y ws)) (hw : ws = Cond.codeWith y bytes maxL ret hh :: ws') (hrc : rm.cells = mc) (hrs : rm.slots = ms)
    (hd : y.cls = C ∧ y.cls ≠ "java/lang/invoke/MethodHandle" ∧ y.cls ≠ "java/lang/invoke/VarHandle" ∧ (parseMethodDescriptor y.desc).map (fun d => d.parameters.length) = some n) (hR : rm.frames + 1 ≤ R.frames ∧ 8 + (maxL + 11) + rm.locals ≤ R.locals) :
    vx_CVW R s args own C index y bytes maxL ret hh ws rm mc ms n := by
  obtain ⟨hC, hd⟩ := hd
  subst hC
  have ok : ∀ w ∈ wsV own index y.cls y ws, w.before args s = true := fun w h => ht w (hT w h).1
  have hG : GoodIn Ts ws := fun w h => hT w (by unfold wsV; exact List.mem_append_right _ h)
  have hc : Cond.codeWith y bytes maxL ret hh ∈ ws := by rw [hw]; exact List.mem_cons_self
  refine ⟨⟨hrc, hrs, hR.1, hR.2, pay_in ht hG, hc⟩, ht _ (hG _ hc).1, ok _ (by simp [wsV]), ⟨hd.1, hd.2.1⟩, fun sig h => ?_, ok _ (by simp [wsV]), ok _ (by simp [wsV]), ok _ (by simp [wsV])⟩
  have h2 := hd.2.2
  rw [h] at h2
  exact (Option.some.inj h2).symm
theorem vx_runVW {y : MethodName} {bytes cc : ByteArray} {maxL nL mc ms n index : Nat} {ret : Option FieldType} {hh : List (Nat × Nat × Nat × Nat)} {ws : List Cond} {rm : Room} {Pc : Array Value → State → Prop} {Qc : Array Value → State → Outcome → State → Prop} {free : Addr → Prop} {Ts : List Cond} {own C : String} {b : Addr} {As rest : List Value} {g : JFrame}
    (S : CallFix p m c cc nL s args Ts own) (hM : Met l y ws rm Pc Qc mc ms free) (cw : vx_CVW R s args own C index y bytes maxL ret hh ws rm mc ms n) (hp : PreV s H C b Pc As)
    (hg : g.method = m) (hn : As.length = n) (hsize : g.locals.size = nL) (hstack : g.stack = As.reverse ++ .ref b :: rest) (hW : 2 * g.monitorRoom + (rest.map fun v => v.category).sum ≤ 8) (hdg : decode cc g.pc = .ok (.invokevirtual index, 3)) (hf : cells + mc ≤ R.cells ∧ slots + ms ≤ R.slots) :
    va_Run p l e R s m args below meth c H locs cells slots mc ms g rest (Qc (Value.ref b :: As).toArray) free := by
  obtain ⟨⟨hrc, hrs, hfr, hlo, hws, hcw⟩, hcode, hini, hy, hlen, hl, hin, hse⟩ := cw
  have hK : Back l R p e below s args y 3 8 (PreOf R mc ms Pc) (PostOf Qc mc ms free) := va_backW (hh := hh) (bytes := bytes) (maxL := maxL) (ret := ret) hM hp.1 hrc hrs hfr hlo hws hcw (fun a' U hW => word_at hW (Or.inl (by first | rfl | simp [Cond.onTables, Cond.keeps, Cond.steady])) hini)
  obtain ⟨hx, hb, hml, ho, -⟩ := S
  obtain ⟨-, ⟨cellB, hcB, hoB, hclB⟩, hPc⟩ := hp
  intro T hT X
  obtain ⟨v, vm₁, ⟨U', l2, c2, s2⟩, hW₁, X', ⟨g', mk, t, L, e1, e2, hq, h1, hL, h2, h3⟩, st⟩ := vx_callVW X hx (C := C) (hh := hh) (bytes := bytes) (maxL := maxL) (ret := ret) ho hl hin hse hcode hy hK (by rw [hT]; exact hcB) hoB hclB hg (hsize.trans hml.symm) (argsL := As) (rest := rest) (fun sig h => hn.trans (hlen sig h)) hstack hW (by rw [hb]; exact hdg)
    (fun vm₁ hW₁ => ⟨hf.1, hf.2, hPc (T.setVm vm₁) hT hW₁⟩)
  dsimp only [Pt.U, Pt.locs, Pt.cells, Pt.slots] at X' e1 e2 h1 h2 h3 st
  subst h1; subst h2; subst h3
  exact ⟨v, (T.setVm vm₁).calling g' mk (Value.ref b :: As).toArray, t, U', L, hT, X', hL, e1, e2, hq, st⟩
section
variable {y : MethodName} {bytes cc : ByteArray} {maxL nL mc ms n index : Nat} {ret : Option FieldType} {ws : List Cond} {rm : Room} {Pc : Array Value → State → Prop} {Qc : Array Value → State → Outcome → State → Prop} {XC : String → State → State → Prop} {free : Addr → Prop} {Ts : List Cond} {own C : String} {b : Addr} {As rest : List Value} {g : JFrame}
theorem vx_runVX {hh : List (Nat × Nat × Nat × Nat)} (S : CallFix p m c cc nL s args Ts own) (hM : vx_Met l y ws rm Pc Qc XC mc ms free) (cw : vx_CVW R s args own C index y bytes maxL ret hh ws rm mc ms n) (hp : PreV s H C b Pc As)
    (hg : g.method = m) (hn : As.length = n) (hsize : g.locals.size = nL) (hstack : g.stack = As.reverse ++ .ref b :: rest) (hW : 2 * g.monitorRoom + (rest.map fun v => v.category).sum ≤ 8) (hdg : decode cc g.pc = .ok (.invokevirtual index, 3)) (hf : cells + mc ≤ R.cells ∧ slots + ms ≤ R.slots) :
    vx_Run p l e R s m args below meth c H locs cells slots mc ms g rest (Qc (Value.ref b :: As).toArray) XC free := by
  obtain ⟨⟨hrc, hrs, hfr, hlo, hws, hcw⟩, hcode, hini, hy, hlen, hl, hin, hse⟩ := cw
  have hK : vx_Back l R p e below s args y 3 8 (PreOf R mc ms Pc) (PostOf Qc mc ms free) (vx_Post XC mc ms free) := vx_backW (hh := hh) (bytes := bytes) (maxL := maxL) (ret := ret) hM hp.1 hrc hrs hfr hlo hws hcw (fun a' U hW => word_at hW (Or.inl (by first | rfl | simp [Cond.onTables, Cond.keeps, Cond.steady])) hini)
  obtain ⟨hx, hb, hml, ho, -⟩ := S
  obtain ⟨-, ⟨cellB, hcB, hoB, hclB⟩, hPc⟩ := hp
  intro T hT X
  rcases vx_callVX X hx (C := C) (hh := hh) (bytes := bytes) (maxL := maxL) (ret := ret) ho hl hin hse hcode hy hK (by rw [hT]; exact hcB) hoB hclB hg (hsize.trans hml.symm) (argsL := As) (rest := rest) (fun sig h => hn.trans (hlen sig h)) hstack hW (by rw [hb]; exact hdg)
    (fun vm₁ hW₁ => ⟨hf.1, hf.2, hPc (T.setVm vm₁) hT hW₁⟩) with ⟨v, vm₁, ⟨U', l2, c2, s2⟩, hW₁, X', ⟨g', mk, t, L, e1, e2, hq, h1, hL, h2, h3⟩, st⟩ | ⟨q, vm₁, ⟨U', l2, c2, s2⟩, hW₁, X', ⟨g', mk, t, L, E, ce, e1, e2, hq, hce, hcv, hcl, h1, hL, h2, h3⟩, st⟩
  · dsimp only [Pt.U, Pt.locs, Pt.cells, Pt.slots] at X' e1 e2 h1 h2 h3 st
    subst h1; subst h2; subst h3
    exact Or.inl ⟨v, (T.setVm vm₁).calling g' mk (Value.ref b :: As).toArray, t, U', L, hT, X', hL, e1, e2, hq, st⟩
  · dsimp only [Pt.U, Pt.locs, Pt.cells, Pt.slots] at X' e1 e2 h1 h2 h3 st hcl
    subst h1; subst h2; subst h3
    exact Or.inr ⟨q, (T.setVm vm₁).calling g' mk (Value.ref b :: As).toArray, t, U', L, E, ce, hT, X', hL, e1, e2, hq, hce, hcv, vx_cls hW₁ hcl, st⟩
theorem vx_runSX {hh : List (Nat × Nat × Nat × Nat)} (S : CallFix p m c cc nL s args Ts own) (hM : vx_Met l y ws rm Pc Qc XC mc ms free) (cw : vx_CSW R s args own index y bytes maxL ret hh ws rm mc ms n) (hp : PreS s H Pc As)
    (hg : g.method = m) (hn : As.length = n) (hsize : g.locals.size = nL) (hstack : g.stack = As.reverse ++ rest) (hW : 2 * g.monitorRoom + (rest.map fun v => v.category).sum ≤ 8) (hdg : decode cc g.pc = .ok (.invokestatic index, 3)) (hf : cells + mc ≤ R.cells ∧ slots + ms ≤ R.slots) :
    vx_Run p l e R s m args below meth c H locs cells slots mc ms g rest (Qc As.toArray) XC free := by
  obtain ⟨⟨hrc, hrs, hfr, hlo, hws, hcw⟩, hcode, hini, hy, hlen, hl, hstt⟩ := cw
  have hK : vx_Back l R p e below s args y 3 8 (PreOf R mc ms Pc) (PostOf Qc mc ms free) (vx_Post XC mc ms free) := vx_backW (hh := hh) (bytes := bytes) (maxL := maxL) (ret := ret) hM hp.1 hrc hrs hfr hlo hws hcw (fun a' U hW => word_at hW (Or.inl (by first | rfl | simp [Cond.onTables, Cond.keeps, Cond.steady])) hini)
  obtain ⟨hx, hb, hml, ho, -⟩ := S
  intro T hT X
  rcases vx_callSX X hx (hh := hh) (bytes := bytes) (maxL := maxL) (ret := ret) ho hl hstt hini hcode hy hK hg (hsize.trans hml.symm) (argsL := As) (rest := rest) (fun sig h => hn.trans (hlen sig h)) hstack hW (by rw [hb]; exact hdg)
    (fun vm₁ hW₁ => ⟨hf.1, hf.2, hp.2 (T.setVm vm₁) hT hW₁⟩) with ⟨v, vm₁, ⟨U', l2, c2, s2⟩, hW₁, X', ⟨g', mk, t, L, e1, e2, hq, h1, hL, h2, h3⟩, st⟩ | ⟨q, vm₁, ⟨U', l2, c2, s2⟩, hW₁, X', ⟨g', mk, t, L, E, ce, e1, e2, hq, hce, hcv, hcl, h1, hL, h2, h3⟩, st⟩
  · dsimp only [Pt.U, Pt.locs, Pt.cells, Pt.slots] at X' e1 e2 h1 h2 h3 st
    subst h1; subst h2; subst h3
    exact Or.inl ⟨v, (T.setVm vm₁).calling g' mk As.toArray, t, U', L, hT, X', hL, e1, e2, hq, st⟩
  · dsimp only [Pt.U, Pt.locs, Pt.cells, Pt.slots] at X' e1 e2 h1 h2 h3 st hcl
    subst h1; subst h2; subst h3
    exact Or.inr ⟨q, (T.setVm vm₁).calling g' mk As.toArray, t, U', L, E, ce, hT, X', hL, e1, e2, hq, hce, hcv, vx_cls hW₁ hcl, st⟩
end
end VXH
theorem vx_ofWH {l : Launch} {y : MethodName} {ws ws' : List Cond} {rm : Room} {Pc : Array Value → State → Prop} {Qc : Array Value → State → Outcome → State → Prop} {XC : String → State → State → Prop} {mc ms : Nat} {free : Addr → Prop} {cc : ByteArray} {maxL : Nat} {ret : Option FieldType} {hh : List (Nat × Nat × Nat × Nat)}
    (hy : plainName y.cls = true) (hw : ws = Cond.codeWith y cc maxL ret hh :: ws')
    (body : ∀ p e s m args below meth c s₁, BodyLoose p l y (headSpec ws rm) cc maxL ret e s m args below meth c s₁ → c.maxLocals = maxL → Pc args s →
      W p l e (headSpec ws rm).room s m args below meth c s.heap [] 0 0 (vx_MQ below Qc XC args s mc ms free) (entryFrame m args maxL)) : vx_Met l y ws rm Pc Qc XC mc ms free := by
  refine MetFree.of_bodyS (code := cc) (maxLocals := maxL) (ret := ret) hy ?_ ?_
  · intro args s m h hn
    obtain ⟨m9, meth, c, hn9, h1, h2, h3, h4, -, h5, h6, -⟩ := Cond.codeWith_spec (atoms_spec (ws := ws) h _ (by rw [hw]; exact List.mem_cons_self))
    cases hn.symm.trans hn9
    exact ⟨meth, c, h1, h2, h3, h4, h5, h6⟩
  · intro p e s m args below meth c s₁ B hml hP _
    have hh0 : s₁.heap = s.heap := by rw [B.state]; rfl
    obtain ⟨t, a1, o, b1, b2, b3⟩ := body p e s m args below meth c s₁ B hml hP s₁ hh0 (Stand.of_body B)
    exact ⟨t, o, a1, b1, b2, b3⟩
end
section
def AE_n : String := "java/lang/ArithmeticException"
abbrev AE_c : List String := ["java/lang/RuntimeException", "java/lang/Exception"]
theorem cl_X_107 : Cond.classLink R_X 107 AE_n ∈ tb_l := in_tb 197 (by decide +kernel) (by decide +kernel)
theorem ii_AE : Cond.initialized AE_n ∈ tb_l := in_tb 28 (by decide +kernel) (by decide +kernel)
theorem at_in : ((vx_atS R_X 111 AE_n AE_c).filter goodWord).all (fun w => decide (w ∈ lw_tbl)) = true := by decide +kernel
theorem at_ot : (Cond.classLink R_X 107 AE_n :: Cond.initialized AE_n :: vx_atS R_X 111 AE_n AE_c).all vx_ot = true := by decide +kernel
abbrev ng_l : List Cond := [.castable AE_n AE_n, .declares (Bundle.initS "java/lang/RuntimeException"), .declares (Bundle.initS "java/lang/Exception"), .declares (Bundle.initS Bundle.tN)]
theorem at_ng : ((vx_atS R_X 111 AE_n AE_c).filter (fun w => !goodWord w)).all (fun w => decide (w ∈ ng_l)) = true := by decide +kernel
/-- what a throw asks of the heap and of the tables, beside the words -/
def ex_P (sa : Nat) (A : Nat → Prop) (U : State) (H : Heap) : Prop :=
  vk_R R_X 109 "no hit is left" sa U ∧ vx_Zq Bundle.tN "UNASSIGNED_STACK" Bundle.steD A U H ∧ vx_Zq Bundle.tN "SUPPRESSED_SENTINEL" Bundle.listD A U H ∧ va_Nw (.castable AE_n AE_n) U ∧ va_Nw (.declares (Bundle.initS "java/lang/RuntimeException")) U ∧ va_Nw (.declares (Bundle.initS "java/lang/Exception")) U ∧ va_Nw (.declares (Bundle.initS Bundle.tN)) U
theorem ex_P.warm {sa : Nat} {A : Nat → Prop} {s U : State} {H : Heap} (hW : s.WarmedH U.vm) (h : ex_P sa A s H) : ex_P sa A U H := by
  obtain ⟨h1, h2, h3, h4, h5, h6, h7⟩ := h
  exact ⟨vk_R.warm hW h1, h2.moved hW.alike, h3.moved hW.alike, va_Nw.warmC hW h4, va_Nw.warmD hW h5, va_Nw.warmD hW h6, va_Nw.warmD hW h7⟩
theorem ex_P.same {sa : Nat} {A : Nat → Prop} {s U : State} {H : Heap} (hv : s.vm = U.vm) (h : ex_P sa A s H) : ex_P sa A U H := by
  obtain ⟨h1, h2, h3, h4, h5, h6, h7⟩ := h
  have ha : s.vm.Alike U.vm := by rw [hv]; exact Vm.Alike.refl _
  exact ⟨vk_R.same hv.symm h1, h2.moved ha, h3.moved ha, va_Nw.same rfl hv h4, va_Nw.same rfl hv h5, va_Nw.same rfl hv h6, va_Nw.same rfl hv h7⟩
theorem ex_P.kept {sa : Nat} {A : Nat → Prop} {s : State} {H H1 : Heap} (hq : ∀ a : Nat, a < H.size → ¬ A a → H1[a]? = H[a]?) (h : ex_P sa A s H) : ex_P sa A s H1 := ⟨h.1, h.2.1.kept hq, h.2.2.1.kept hq, h.2.2.2⟩
theorem ex_P.narrow {sa : Nat} {A B : Nat → Prop} {s : State} {H : Heap} (hAB : ∀ q, B q → A q) (h : ex_P sa A s H) : ex_P sa B s H := ⟨h.1, h.2.1.narrow hAB, h.2.2.1.narrow hAB, h.2.2.2⟩
abbrev fx_PreX (D : va_G) (cl : List vw_C) (tys : List (ClassId × FieldType)) (ws : va_W) (As : List Value) (sz sa : Nat) : Array Value → State → Prop := va_Pc As (fun U => (U.heap.size = sz ∧ va_P D cl ws U.heap ∧ va_K D cl tys U ∧ va_D (fun _ => True) ws) ∧ ex_P sa (va_A ws sz) U U.heap)
theorem fx_blindX {D : va_G} {cl : List vw_C} {tys : List (ClassId × FieldType)} {ws : va_W} {As : List Value} {sz sa : Nat} : FrameBlind (fx_PreX D cl tys ws As sz sa) := fun a U g mk q => by
  obtain ⟨q0, ⟨q1, qP, qK, qD⟩, qE⟩ := q
  exact ⟨q0, ⟨q1, qP, va_K.moved (u := U) (U := U.calling g mk a) (Vm.Alike.refl U.vm) qK, qD⟩, ex_P.same (s := U) (U := U.calling g mk a) rfl qE⟩
def fx_MX (l : Launch) (D : va_G) (cl : List vw_C) (tys : List (ClassId × FieldType)) {S : Type} (w : S → va_W) (y : MethodName) (ts : List Cond) (rm : Room) (As : List Value) (σ : S) (sa : Nat) (post : Int64 → S → Prop) (px : S → Prop) (mc ms : Nat) : Prop :=
  ∀ sz : Nat, vx_Met l y ts rm (fx_PreX D cl tys (w σ) As sz sa) (va_Ql post (fun u t => fx_At D cl tys (va_A (w σ) sz) (w u) t) (va_A (w σ) sz)) (vx_X px (fun E u t => E = AE_n ∧ fx_At D cl tys (va_A (w σ) sz) (w u) t) (va_A (w σ) sz)) mc ms (va_A (w σ) sz)
abbrev rm_X_share : Room := { frames := 6, cells := 1, slots := 6, locals := 82 }
theorem fx_enterX {l : Launch} {D : va_G} {tys : List (ClassId × FieldType)} {S : Type} {w : S → va_W} {As : List Value} {σ : S} {sa : Nat} {post : Int64 → S → Prop} {px : S → Prop} (hlt : l.stackTraces = false) (pl : List (Option Value)) (hpl : fx_fl 0 pl = lv_args 0 As) (hlen : pl.length ≤ 9) (hln : (lg_sl As).length ≤ 9)
    (body : ∀ X : fx_M, fx_C X l rm_X_share D cl_s tys b_X_share (k_X_share :: tb_l) R_X → (∀ (r : Int64) (u : S) (pc : Nat) (pl2 : List (Option Value)), decode b_X_share pc = .ok (.lreturn, 1) → post r u → fx_J X (w u) pc pl2 [.long r]) → (∀ (u : S) (pc : Nat) (pl2 : List (Option Value)), decode b_X_share pc = .ok (.new 107, 3) → decode b_X_share (pc + 3) = .ok (.dup, 1) → decode b_X_share (pc + 4) = .ok (.ldc 109, 2) → decode b_X_share (pc + 6) = .ok (.invokespecial 111, 3) → decode b_X_share (pc + 9) = .ok (.athrow, 1) → px u → fx_J X (w u) pc pl2 []) → fx_J X (w σ) 0 pl []) : fx_MX l D cl_s tys w y_X_share (k_X_share :: tb_l) rm_X_share As σ sa post px 1 6 := by
  intro sz
  refine vx_ofW (cc := b_X_share) (maxL := 9) (ret := some .long) (by decide +kernel) rfl ?_
  intro p e s m args below meth c s₁ B hml htab hv
  obtain ⟨rfl, ⟨hsz, hP, hK, hD0⟩, hE⟩ := hv
  have hx := B.exec
  have hb := B.bytes
  have hr := B.returns
  have hts := atoms_spec (ws := k_X_share :: tb_l) B.pre
  have hown : s.vm.findClass R_X = some m.cls := findClass_of_methodNamed B.named
  have hlocks : meth.locks = false := B.notSynchronized
  subst hsz
  have hD := hD0.self (sz := s.heap.size)
  have hl := lv_entry As (n := 9) hln
  rw [lg_entry_eq]
  refine body ((p, l, e, rm_X_share), (s, m, As.toArray, below), (meth, c, vx_MQ below (va_Ql post (fun u t => fx_At D cl_s tys (va_A (w σ) s.heap.size) (w u) t) (va_A (w σ) s.heap.size)) (vx_X px (fun E u t => E = AE_n ∧ fx_At D cl_s tys (va_A (w σ) s.heap.size) (w u) t) (va_A (w σ) s.heap.size)) As.toArray s 1 6 (va_A (w σ) s.heap.size)), (D, cl_s, va_A (w σ) s.heap.size), (9, 0, 0)) ⟨hx, hb, hml, hown, hts, hK, fun q h => Or.inr h, rfl, rfl, rfl, rfl, Nat.zero_le _, Nat.zero_le _⟩ ?_ ?_ s.heap [] _ hP hD va_S.rf ⟨hlen, by rw [hpl]; exact hl⟩
  · intro r u pc pl2 hd hp H locs ls hP2 hD2 hS2 hl2
    refine vx_ret (W.widen (k := 1) (n := 6) (Nat.zero_le 1) (Nat.zero_le 6) ?_)
    exact W.lret (v := r) hx hb hr (fun t ht hW => ⟨⟨r, u, rfl, hp, by rw [ht]; exact hP2, va_K.moved hW.alike hK, hD2⟩, hS2.F ht⟩) hS2.2.2 hd hlocks
  · intro u pc pl2 d0 d3 d4 d6 d9 hp H locs ls hP2 hD2 hS2 hl2
    obtain ⟨e1, e2, e3, e4, e5, e6, e7⟩ := hE
    have hat : ∀ w ∈ vx_atS R_X 111 AE_n AE_c, w.before As.toArray s = true := by
      refine vx_hat (B := ng_l) (fun w hw => ?_) (fun w hw => ?_) ?_
      · have h1 := List.all_eq_true.mp at_in w hw
        exact hts w (List.mem_cons_of_mem _ (List.mem_filter.mpr ⟨of_decide_eq_true h1, (List.mem_filter.mp hw).2⟩))
      · exact of_decide_eq_true (List.all_eq_true.mp at_ng w hw)
      · exact vx_c (va_Nw.use rfl e4) (vx_c (va_Nw.use rfl e5) (vx_c (va_Nw.use rfl e6) (vx_c (va_Nw.use rfl e7) vx_n)))
    refine vx_throwS (mc := 1) (ms := 6) (sa := sa) (text := "no hit is left") (A := va_A (w σ) s.heap.size) (own := R_X) (cls := AE_n) (names := AE_c) (ik := 107) (is := 109) (ic := 111) hx hb hlt hown (by decide +kernel) (by decide +kernel) (hts _ (List.mem_cons_of_mem _ cl_X_107)) (hts _ (List.mem_cons_of_mem _ ii_AE)) e1 hat (fun w hw => List.all_eq_true.mp at_ot w hw) e2 e3 hS2 (hl2.2.1.trans hml.symm) d0 d3 d4 d6 d9 (fun x hx => (htab x hx).elim) (Nat.le_of_ble_eq_true rfl) (Nat.le_of_ble_eq_true rfl) (Nat.le_of_ble_eq_true rfl) (Nat.le_of_ble_eq_true rfl) hlocks (fun t hal hsz hkp => ?_) hS2.2.2 (Nat.le_refl 1) (Nat.le_refl 6)
    exact ⟨u, hp, ⟨rfl, hP2.kept (fun k q hq => hkp q.1 ((hP2 k q hq).lt)), va_K.moved hal hK, hD2⟩, Nat.le_trans hS2.1 hsz, fun q h1 h2 => (hkp q (Nat.lt_of_lt_of_le h1 hS2.1)).trans (hS2.2.1 q h1 h2)⟩
theorem cX_share (l : Launch) (D : va_G) (q : Nat → Nat) (k : Nat → ClassId) (σ : sx_T) (a : ab_T) (hlt : l.stackTraces = false) (hx : rx_r a σ) (y z s : Int32) (sa : Nat) : fx_MX l D cl_s (ty_X k) (w_X q k) y_X_share (k_X_share :: tb_l) rm_X_share [.ref (q 0), .int y, .int z, .int s] σ sa (fun r u => sp_share a y z s = some r ∧ rx_r a u) (fun u => sp_share a y z s = none ∧ rx_r a u) 1 6 := by
  refine fx_enterX hlt [some (.ref (q 0)), some (.int y), some (.int z), some (.int s), none, none, none, none, none] rfl (Nat.le_of_ble_eq_true rfl) (Nat.le_of_ble_eq_true rfl) (fun X C hR hT => ?_)
  unfold sp_share at hR hT
  refine jr_iload_1 C d_X_share_0 ?_
  refine qX_X_isFacet C (cX_isFacet l D (ty_X k) (w_X q k) σ y) ⟨Nat.le_of_ble_eq_true rfl, Nat.le_of_ble_eq_true rfl⟩ (Nat.le_of_ble_eq_true rfl) d_X_share_1 (fx_p (fun z1 h1 => ?_))
  rcases h1 with ⟨rfl, f, hf, rfl⟩ | ⟨rfl, h1⟩
  · rw [ix_in hf (by omega)] at hR hT
    refine jr_if_eq (tgt := 14) C d_X_share_4 (by decide) (fun e1 => ?_) (fun e1 => ?_)
    · exact absurd e1 (by decide)
    · refine jr_iload_2 C d_X_share_7 ?_
      refine qX_X_isValue C (cX_isValue l D (ty_X k) (w_X q k) σ z) ⟨Nat.le_of_ble_eq_true rfl, Nat.le_of_ble_eq_true rfl⟩ (Nat.le_of_ble_eq_true rfl) d_X_share_8 (fx_p (fun z2 h2 => ?_))
      rcases h2 with ⟨rfl, v, hv, rfl⟩ | ⟨rfl, h2⟩
      · rw [ix_in hv (by omega)] at hR hT
        dsimp only at hR hT
        have hle := sp_cm a f v
        have hle2 : sp_many a ≤ 64 := ct_le _ 64
        refine jr_if_ne (tgt := 18) C d_X_share_11 (by decide) (fun e2 => ?_) (fun e2 => ?_)
        · refine jr_aload_0 C d_X_share_18 ?_
          refine qX_X_hitsLeft C (cX_hitsLeft l D q k σ a hx) rfl ⟨Nat.le_of_ble_eq_true rfl, Nat.le_of_ble_eq_true rfl⟩ (Nat.le_of_ble_eq_true rfl) d_X_share_19 (fx_p (fun t ht => ?_))
          refine jr_lstore_4 C d_X_share_22 rfl ?_
          refine jr_lload_4 C d_X_share_24 ?_
          refine qX_JL_bitCount C (cJ_bitCount l D (ty_X k) (w_X q k) σ t) ⟨Nat.le_of_ble_eq_true rfl, Nat.le_of_ble_eq_true rfl⟩ (Nat.le_of_ble_eq_true rfl) d_X_share_26 (fx_p (fun c hc => ?_))
          have hc2 : c = nI (sp_many a) := by rw [hc]; exact congrArg nI (ct_congr ht)
          rw [hc2]
          refine jr_istore_6 C d_X_share_29 rfl ?_
          refine jr_iload_6 C d_X_share_31 ?_
          refine jr_if_ne (tgt := 46) C d_X_share_33 (by decide) (fun e3 => ?_) (fun e3 => ?_)
          · have h0 : 0 < sp_many a := by
              rcases Nat.eq_zero_or_pos (sp_many a) with e | e
              · rw [e] at e3; exact absurd nI_0 e3
              · exact e
            rw [if_neg (by omega)] at hR
            refine jr_lload_4 C d_X_share_46 ?_
            refine jr_aload_0 C d_X_share_48 ?_
            refine gX_havers C d_X_share_49 ?_
            refine jr_iload_1 C d_X_share_52 ?_
            refine jr_iload_2 C d_X_share_53 ?_
            refine kX_cell C ⟨Nat.le_of_ble_eq_true rfl, Nat.le_of_ble_eq_true rfl⟩ (Nat.le_of_ble_eq_true rfl) d_X_share_54 ?_
            refine aX_havers C (by omega) d_X_share_57 ?_
            refine jr_land C d_X_share_58 ?_
            refine qX_JL_bitCount C (cJ_bitCount l D (ty_X k) (w_X q k) σ (t &&& x_hav σ (f * 100 + v))) ⟨Nat.le_of_ble_eq_true rfl, Nat.le_of_ble_eq_true rfl⟩ (Nat.le_of_ble_eq_true rfl) d_X_share_59 (fx_p (fun d hd => ?_))
            have hd2 : d = nI (sp_cnt a f v) := by
              rw [hd]
              refine congrArg nI (ct_congr (fun r hr => ?_))
              rw [tb_and, ht r hr, hx.2.2.2.1 f v r hf hv hr]
              apply bl_eq
              rw [Bool.and_eq_true, bx_iff, bx_iff, bx_iff]
            rw [hd2]
            refine jr_istore_7 C d_X_share_62 rfl ?_
            refine jr_iload_7 C d_X_share_64 ?_
            refine jr_iload_6 C d_X_share_66 ?_
            refine qX_X_commonDivisor C (cX_commonDivisor l D (ty_X k) (w_X q k) σ (sp_cnt a f v) (sp_many a) (by omega) (by omega) h0) ⟨Nat.le_of_ble_eq_true rfl, Nat.le_of_ble_eq_true rfl⟩ (Nat.le_of_ble_eq_true rfl) d_X_share_68 (fx_p (fun g hg => ?_))
            rw [hg]
            have hg0 : 0 < Nat.gcd (sp_cnt a f v) (sp_many a) := Nat.gcd_pos_of_pos_right _ h0
            have hg1 : Nat.gcd (sp_cnt a f v) (sp_many a) ≤ sp_many a := Nat.le_of_dvd h0 (Nat.gcd_dvd_right _ _)
            refine jr_istore_8 C d_X_share_71 rfl ?_
            refine jr_iload_3 C d_X_share_73 ?_
            refine jr_if_ne (tgt := 86) C d_X_share_74 (by decide) (fun e4 => ?_) (fun e4 => ?_)
            · refine jr_iload_6 C d_X_share_86 ?_
              refine jr_iload_8 C d_X_share_88 ?_
              refine jr_idivN C d_X_share_90 (by omega) (by omega) (by omega) ?_
              refine jr_i2l C d_X_share_91 (nI_l (by have := Nat.div_le_self (sp_many a) (Nat.gcd (sp_cnt a f v) (sp_many a)); omega)) ?_
              exact hR _ _ _ _ d_X_share_92 ⟨by rw [if_neg e4], hx⟩
            · refine jr_iload_7 C d_X_share_77 ?_
              refine jr_iload_8 C d_X_share_79 ?_
              refine jr_idivN C d_X_share_81 (by omega) (by omega) (by omega) ?_
              refine jr_i2l C d_X_share_82 (nI_l (by have := Nat.div_le_self (sp_cnt a f v) (Nat.gcd (sp_cnt a f v) (sp_many a)); omega)) ?_
              refine jr_goto (tgt := 92) C d_X_share_83 (by decide) ?_
              exact hR _ _ _ _ d_X_share_92 ⟨by rw [if_pos e4], hx⟩
          · have h0 : sp_many a = 0 := (nI_eq (by omega) (by omega)).mp (e3.trans nI_0.symm)
            rw [if_pos h0] at hT
            exact hT _ _ _ d_X_share_36 d_X_share_39 d_X_share_40 d_X_share_42 d_X_share_45 ⟨rfl, hx⟩
        · exact absurd e2 (by decide)
      · rw [ix_no (by omega) h2] at hR
        refine jr_if_ne (tgt := 18) C d_X_share_11 (by decide) (fun e2 => ?_) (fun e2 => ?_)
        · exact absurd nI_0 e2
        · refine jr_ldc2 C d_X_share_14 (List.mem_cons_of_mem _ cl_X_73) ?_
          exact hR _ _ _ _ d_X_share_17 ⟨rfl, hx⟩
  · rw [ix_no (by omega) h1] at hR
    refine jr_if_eq (tgt := 14) C d_X_share_4 (by decide) (fun e1 => ?_) (fun e1 => ?_)
    · refine jr_ldc2 C d_X_share_14 (List.mem_cons_of_mem _ cl_X_73) ?_
      exact hR _ _ _ _ d_X_share_17 ⟨rfl, hx⟩
    · exact absurd nI_0 e1
end
section
theorem d_L_share_0 : decode b_L_share 0 = .ok (.aload 4, 2) := by decide +kernel
theorem d_L_share_2 : decode b_L_share 2 = .ok (.iconst 0, 1) := by decide +kernel
theorem d_L_share_3 : decode b_L_share 3 = .ok (.aload_n 0, 1) := by decide +kernel
theorem d_L_share_4 : decode b_L_share 4 = .ok (.iload_n 1, 1) := by decide +kernel
theorem d_L_share_5 : decode b_L_share 5 = .ok (.iload_n 2, 1) := by decide +kernel
theorem d_L_share_6 : decode b_L_share 6 = .ok (.iload_n 3, 1) := by decide +kernel
theorem d_L_share_7 : decode b_L_share 7 = .ok (.invokevirtual 7, 3) := by decide +kernel
theorem d_L_share_10 : decode b_L_share 10 = .ok (.lastore, 1) := by decide +kernel
theorem d_L_share_11 : decode b_L_share 11 = .ok (.goto 7, 3) := by decide +kernel
theorem d_L_share_14 : decode b_L_share 14 = .ok (.astore 5, 2) := by decide +kernel
theorem d_L_share_16 : decode b_L_share 16 = .ok (.iconst 1, 1) := by decide +kernel
theorem d_L_share_17 : decode b_L_share 17 = .ok (.ireturn, 1) := by decide +kernel
theorem d_L_share_18 : decode b_L_share 18 = .ok (.iconst 0, 1) := by decide +kernel
theorem d_L_share_19 : decode b_L_share 19 = .ok (.ireturn, 1) := by decide +kernel
theorem d_law_0 : decode code 0 = .ok (.new 8, 3) := by decide +kernel
theorem d_law_3 : decode code 3 = .ok (.dup, 1) := by decide +kernel
theorem d_law_4 : decode code 4 = .ok (.invokespecial 15, 3) := by decide +kernel
theorem d_law_7 : decode code 7 = .ok (.astore_n 1, 1) := by decide +kernel
theorem d_law_8 : decode code 8 = .ok (.new 16, 3) := by decide +kernel
theorem d_law_11 : decode code 11 = .ok (.dup, 1) := by decide +kernel
theorem d_law_12 : decode code 12 = .ok (.invokespecial 18, 3) := by decide +kernel
theorem d_law_15 : decode code 15 = .ok (.astore_n 2, 1) := by decide +kernel
theorem d_law_16 : decode code 16 = .ok (.iconst 1, 1) := by decide +kernel
theorem d_law_17 : decode code 17 = .ok (.newarray .long, 2) := by decide +kernel
theorem d_law_19 : decode code 19 = .ok (.astore_n 3, 1) := by decide +kernel
theorem d_law_20 : decode code 20 = .ok (.iconst 0, 1) := by decide +kernel
theorem d_law_21 : decode code 21 = .ok (.istore 4, 2) := by decide +kernel
theorem d_law_23 : decode code 23 = .ok (.iload 4, 2) := by decide +kernel
theorem d_law_25 : decode code 25 = .ok (.aload_n 0, 1) := by decide +kernel
theorem d_law_26 : decode code 26 = .ok (.arraylength, 1) := by decide +kernel
theorem d_law_27 : decode code 27 = .ok (.iconst 5, 1) := by decide +kernel
theorem d_law_28 : decode code 28 = .ok (.isub, 1) := by decide +kernel
theorem d_law_29 : decode code 29 = .ok (.if_icmp .gt 660, 3) := by decide +kernel
theorem d_law_32 : decode code 32 = .ok (.aload_n 0, 1) := by decide +kernel
theorem d_law_33 : decode code 33 = .ok (.iload 4, 2) := by decide +kernel
theorem d_law_35 : decode code 35 = .ok (.iaload, 1) := by decide +kernel
theorem d_law_36 : decode code 36 = .ok (.bipush 15, 2) := by decide +kernel
theorem d_law_38 : decode code 38 = .ok (.iand, 1) := by decide +kernel
theorem d_law_39 : decode code 39 = .ok (.tableswitch 644 0 12 #[65, 78, 127, 176, 225, 278, 315, 352, 389, 466, 515, 594, 619], 65) := by decide +kernel
theorem d_law_104 : decode code 104 = .ok (.aload_n 1, 1) := by decide +kernel
theorem d_law_105 : decode code 105 = .ok (.invokevirtual 19, 3) := by decide +kernel
theorem d_law_108 : decode code 108 = .ok (.aload_n 2, 1) := by decide +kernel
theorem d_law_109 : decode code 109 = .ok (.invokevirtual 23, 3) := by decide +kernel
theorem d_law_112 : decode code 112 = .ok (.if_icmp .eq 571, 3) := by decide +kernel
theorem d_law_115 : decode code 115 = .ok (.iconst 0, 1) := by decide +kernel
theorem d_law_116 : decode code 116 = .ok (.ireturn, 1) := by decide +kernel
theorem d_law_117 : decode code 117 = .ok (.aload_n 1, 1) := by decide +kernel
theorem d_law_118 : decode code 118 = .ok (.aload_n 0, 1) := by decide +kernel
theorem d_law_119 : decode code 119 = .ok (.iload 4, 2) := by decide +kernel
theorem d_law_121 : decode code 121 = .ok (.iconst 1, 1) := by decide +kernel
theorem d_law_122 : decode code 122 = .ok (.iadd, 1) := by decide +kernel
theorem d_law_123 : decode code 123 = .ok (.iaload, 1) := by decide +kernel
theorem d_law_124 : decode code 124 = .ok (.aload_n 0, 1) := by decide +kernel
theorem d_law_125 : decode code 125 = .ok (.iload 4, 2) := by decide +kernel
theorem d_law_127 : decode code 127 = .ok (.iconst 2, 1) := by decide +kernel
theorem d_law_128 : decode code 128 = .ok (.iadd, 1) := by decide +kernel
theorem d_law_129 : decode code 129 = .ok (.iaload, 1) := by decide +kernel
theorem d_law_130 : decode code 130 = .ok (.aload_n 0, 1) := by decide +kernel
theorem d_law_131 : decode code 131 = .ok (.iload 4, 2) := by decide +kernel
theorem d_law_133 : decode code 133 = .ok (.iconst 3, 1) := by decide +kernel
theorem d_law_134 : decode code 134 = .ok (.iadd, 1) := by decide +kernel
theorem d_law_135 : decode code 135 = .ok (.iaload, 1) := by decide +kernel
theorem d_law_136 : decode code 136 = .ok (.invokevirtual 24, 3) := by decide +kernel
theorem d_law_139 : decode code 139 = .ok (.aload_n 2, 1) := by decide +kernel
theorem d_law_140 : decode code 140 = .ok (.aload_n 0, 1) := by decide +kernel
theorem d_law_141 : decode code 141 = .ok (.iload 4, 2) := by decide +kernel
theorem d_law_143 : decode code 143 = .ok (.iconst 1, 1) := by decide +kernel
theorem d_law_144 : decode code 144 = .ok (.iadd, 1) := by decide +kernel
theorem d_law_145 : decode code 145 = .ok (.iaload, 1) := by decide +kernel
theorem d_law_146 : decode code 146 = .ok (.aload_n 0, 1) := by decide +kernel
theorem d_law_147 : decode code 147 = .ok (.iload 4, 2) := by decide +kernel
theorem d_law_149 : decode code 149 = .ok (.iconst 2, 1) := by decide +kernel
theorem d_law_150 : decode code 150 = .ok (.iadd, 1) := by decide +kernel
theorem d_law_151 : decode code 151 = .ok (.iaload, 1) := by decide +kernel
theorem d_law_152 : decode code 152 = .ok (.aload_n 0, 1) := by decide +kernel
theorem d_law_153 : decode code 153 = .ok (.iload 4, 2) := by decide +kernel
theorem d_law_155 : decode code 155 = .ok (.iconst 3, 1) := by decide +kernel
theorem d_law_156 : decode code 156 = .ok (.iadd, 1) := by decide +kernel
theorem d_law_157 : decode code 157 = .ok (.iaload, 1) := by decide +kernel
theorem d_law_158 : decode code 158 = .ok (.invokevirtual 28, 3) := by decide +kernel
theorem d_law_161 : decode code 161 = .ok (.if_icmp .eq 522, 3) := by decide +kernel
theorem d_law_164 : decode code 164 = .ok (.iconst 0, 1) := by decide +kernel
theorem d_law_165 : decode code 165 = .ok (.ireturn, 1) := by decide +kernel
theorem d_law_166 : decode code 166 = .ok (.aload_n 1, 1) := by decide +kernel
theorem d_law_167 : decode code 167 = .ok (.aload_n 0, 1) := by decide +kernel
theorem d_law_168 : decode code 168 = .ok (.iload 4, 2) := by decide +kernel
theorem d_law_170 : decode code 170 = .ok (.iconst 1, 1) := by decide +kernel
theorem d_law_171 : decode code 171 = .ok (.iadd, 1) := by decide +kernel
theorem d_law_172 : decode code 172 = .ok (.iaload, 1) := by decide +kernel
theorem d_law_173 : decode code 173 = .ok (.aload_n 0, 1) := by decide +kernel
theorem d_law_174 : decode code 174 = .ok (.iload 4, 2) := by decide +kernel
theorem d_law_176 : decode code 176 = .ok (.iconst 2, 1) := by decide +kernel
theorem d_law_177 : decode code 177 = .ok (.iadd, 1) := by decide +kernel
theorem d_law_178 : decode code 178 = .ok (.iaload, 1) := by decide +kernel
theorem d_law_179 : decode code 179 = .ok (.aload_n 0, 1) := by decide +kernel
theorem d_law_180 : decode code 180 = .ok (.iload 4, 2) := by decide +kernel
theorem d_law_182 : decode code 182 = .ok (.iconst 3, 1) := by decide +kernel
theorem d_law_183 : decode code 183 = .ok (.iadd, 1) := by decide +kernel
theorem d_law_184 : decode code 184 = .ok (.iaload, 1) := by decide +kernel
theorem d_law_185 : decode code 185 = .ok (.invokevirtual 29, 3) := by decide +kernel
theorem d_law_188 : decode code 188 = .ok (.aload_n 2, 1) := by decide +kernel
theorem d_law_189 : decode code 189 = .ok (.aload_n 0, 1) := by decide +kernel
theorem d_law_190 : decode code 190 = .ok (.iload 4, 2) := by decide +kernel
theorem d_law_192 : decode code 192 = .ok (.iconst 1, 1) := by decide +kernel
theorem d_law_193 : decode code 193 = .ok (.iadd, 1) := by decide +kernel
theorem d_law_194 : decode code 194 = .ok (.iaload, 1) := by decide +kernel
theorem d_law_195 : decode code 195 = .ok (.aload_n 0, 1) := by decide +kernel
theorem d_law_196 : decode code 196 = .ok (.iload 4, 2) := by decide +kernel
theorem d_law_198 : decode code 198 = .ok (.iconst 2, 1) := by decide +kernel
theorem d_law_199 : decode code 199 = .ok (.iadd, 1) := by decide +kernel
theorem d_law_200 : decode code 200 = .ok (.iaload, 1) := by decide +kernel
theorem d_law_201 : decode code 201 = .ok (.aload_n 0, 1) := by decide +kernel
theorem d_law_202 : decode code 202 = .ok (.iload 4, 2) := by decide +kernel
theorem d_law_204 : decode code 204 = .ok (.iconst 3, 1) := by decide +kernel
theorem d_law_205 : decode code 205 = .ok (.iadd, 1) := by decide +kernel
theorem d_law_206 : decode code 206 = .ok (.iaload, 1) := by decide +kernel
theorem d_law_207 : decode code 207 = .ok (.invokevirtual 33, 3) := by decide +kernel
theorem d_law_210 : decode code 210 = .ok (.if_icmp .eq 473, 3) := by decide +kernel
theorem d_law_213 : decode code 213 = .ok (.iconst 0, 1) := by decide +kernel
theorem d_law_214 : decode code 214 = .ok (.ireturn, 1) := by decide +kernel
theorem d_law_215 : decode code 215 = .ok (.aload_n 1, 1) := by decide +kernel
theorem d_law_216 : decode code 216 = .ok (.aload_n 0, 1) := by decide +kernel
theorem d_law_217 : decode code 217 = .ok (.iload 4, 2) := by decide +kernel
theorem d_law_219 : decode code 219 = .ok (.iconst 1, 1) := by decide +kernel
theorem d_law_220 : decode code 220 = .ok (.iadd, 1) := by decide +kernel
theorem d_law_221 : decode code 221 = .ok (.iaload, 1) := by decide +kernel
theorem d_law_222 : decode code 222 = .ok (.aload_n 0, 1) := by decide +kernel
theorem d_law_223 : decode code 223 = .ok (.iload 4, 2) := by decide +kernel
theorem d_law_225 : decode code 225 = .ok (.iconst 2, 1) := by decide +kernel
theorem d_law_226 : decode code 226 = .ok (.iadd, 1) := by decide +kernel
theorem d_law_227 : decode code 227 = .ok (.iaload, 1) := by decide +kernel
theorem d_law_228 : decode code 228 = .ok (.aload_n 0, 1) := by decide +kernel
theorem d_law_229 : decode code 229 = .ok (.iload 4, 2) := by decide +kernel
theorem d_law_231 : decode code 231 = .ok (.iconst 3, 1) := by decide +kernel
theorem d_law_232 : decode code 232 = .ok (.iadd, 1) := by decide +kernel
theorem d_law_233 : decode code 233 = .ok (.iaload, 1) := by decide +kernel
theorem d_law_234 : decode code 234 = .ok (.invokevirtual 34, 3) := by decide +kernel
theorem d_law_237 : decode code 237 = .ok (.aload_n 2, 1) := by decide +kernel
theorem d_law_238 : decode code 238 = .ok (.aload_n 0, 1) := by decide +kernel
theorem d_law_239 : decode code 239 = .ok (.iload 4, 2) := by decide +kernel
theorem d_law_241 : decode code 241 = .ok (.iconst 1, 1) := by decide +kernel
theorem d_law_242 : decode code 242 = .ok (.iadd, 1) := by decide +kernel
theorem d_law_243 : decode code 243 = .ok (.iaload, 1) := by decide +kernel
theorem d_law_244 : decode code 244 = .ok (.aload_n 0, 1) := by decide +kernel
theorem d_law_245 : decode code 245 = .ok (.iload 4, 2) := by decide +kernel
theorem d_law_247 : decode code 247 = .ok (.iconst 2, 1) := by decide +kernel
theorem d_law_248 : decode code 248 = .ok (.iadd, 1) := by decide +kernel
theorem d_law_249 : decode code 249 = .ok (.iaload, 1) := by decide +kernel
theorem d_law_250 : decode code 250 = .ok (.aload_n 0, 1) := by decide +kernel
theorem d_law_251 : decode code 251 = .ok (.iload 4, 2) := by decide +kernel
theorem d_law_253 : decode code 253 = .ok (.iconst 3, 1) := by decide +kernel
theorem d_law_254 : decode code 254 = .ok (.iadd, 1) := by decide +kernel
theorem d_law_255 : decode code 255 = .ok (.iaload, 1) := by decide +kernel
theorem d_law_256 : decode code 256 = .ok (.invokevirtual 37, 3) := by decide +kernel
theorem d_law_259 : decode code 259 = .ok (.if_icmp .eq 424, 3) := by decide +kernel
theorem d_law_262 : decode code 262 = .ok (.iconst 0, 1) := by decide +kernel
theorem d_law_263 : decode code 263 = .ok (.ireturn, 1) := by decide +kernel
theorem d_law_264 : decode code 264 = .ok (.aload_n 1, 1) := by decide +kernel
theorem d_law_265 : decode code 265 = .ok (.aload_n 0, 1) := by decide +kernel
theorem d_law_266 : decode code 266 = .ok (.iload 4, 2) := by decide +kernel
theorem d_law_268 : decode code 268 = .ok (.iconst 1, 1) := by decide +kernel
theorem d_law_269 : decode code 269 = .ok (.iadd, 1) := by decide +kernel
theorem d_law_270 : decode code 270 = .ok (.iaload, 1) := by decide +kernel
theorem d_law_271 : decode code 271 = .ok (.aload_n 0, 1) := by decide +kernel
theorem d_law_272 : decode code 272 = .ok (.iload 4, 2) := by decide +kernel
theorem d_law_274 : decode code 274 = .ok (.iconst 2, 1) := by decide +kernel
theorem d_law_275 : decode code 275 = .ok (.iadd, 1) := by decide +kernel
theorem d_law_276 : decode code 276 = .ok (.iaload, 1) := by decide +kernel
theorem d_law_277 : decode code 277 = .ok (.ifCond .eq 7, 3) := by decide +kernel
theorem d_law_280 : decode code 280 = .ok (.iconst 1, 1) := by decide +kernel
theorem d_law_281 : decode code 281 = .ok (.goto 4, 3) := by decide +kernel
theorem d_law_284 : decode code 284 = .ok (.iconst 0, 1) := by decide +kernel
theorem d_law_285 : decode code 285 = .ok (.invokevirtual 38, 3) := by decide +kernel
theorem d_law_288 : decode code 288 = .ok (.aload_n 2, 1) := by decide +kernel
theorem d_law_289 : decode code 289 = .ok (.aload_n 0, 1) := by decide +kernel
theorem d_law_290 : decode code 290 = .ok (.iload 4, 2) := by decide +kernel
theorem d_law_292 : decode code 292 = .ok (.iconst 1, 1) := by decide +kernel
theorem d_law_293 : decode code 293 = .ok (.iadd, 1) := by decide +kernel
theorem d_law_294 : decode code 294 = .ok (.iaload, 1) := by decide +kernel
theorem d_law_295 : decode code 295 = .ok (.aload_n 0, 1) := by decide +kernel
theorem d_law_296 : decode code 296 = .ok (.iload 4, 2) := by decide +kernel
theorem d_law_298 : decode code 298 = .ok (.iconst 2, 1) := by decide +kernel
theorem d_law_299 : decode code 299 = .ok (.iadd, 1) := by decide +kernel
theorem d_law_300 : decode code 300 = .ok (.iaload, 1) := by decide +kernel
theorem d_law_301 : decode code 301 = .ok (.ifCond .eq 7, 3) := by decide +kernel
theorem d_law_304 : decode code 304 = .ok (.iconst 1, 1) := by decide +kernel
theorem d_law_305 : decode code 305 = .ok (.goto 4, 3) := by decide +kernel
theorem d_law_308 : decode code 308 = .ok (.iconst 0, 1) := by decide +kernel
theorem d_law_309 : decode code 309 = .ok (.invokevirtual 42, 3) := by decide +kernel
theorem d_law_312 : decode code 312 = .ok (.if_icmp .eq 371, 3) := by decide +kernel
theorem d_law_315 : decode code 315 = .ok (.iconst 0, 1) := by decide +kernel
theorem d_law_316 : decode code 316 = .ok (.ireturn, 1) := by decide +kernel
theorem d_law_317 : decode code 317 = .ok (.aload_n 1, 1) := by decide +kernel
theorem d_law_318 : decode code 318 = .ok (.aload_n 0, 1) := by decide +kernel
theorem d_law_319 : decode code 319 = .ok (.iload 4, 2) := by decide +kernel
theorem d_law_321 : decode code 321 = .ok (.iconst 1, 1) := by decide +kernel
theorem d_law_322 : decode code 322 = .ok (.iadd, 1) := by decide +kernel
theorem d_law_323 : decode code 323 = .ok (.iaload, 1) := by decide +kernel
theorem d_law_324 : decode code 324 = .ok (.aload_n 0, 1) := by decide +kernel
theorem d_law_325 : decode code 325 = .ok (.iload 4, 2) := by decide +kernel
theorem d_law_327 : decode code 327 = .ok (.iconst 2, 1) := by decide +kernel
theorem d_law_328 : decode code 328 = .ok (.iadd, 1) := by decide +kernel
theorem d_law_329 : decode code 329 = .ok (.iaload, 1) := by decide +kernel
theorem d_law_330 : decode code 330 = .ok (.invokevirtual 43, 3) := by decide +kernel
theorem d_law_333 : decode code 333 = .ok (.aload_n 2, 1) := by decide +kernel
theorem d_law_334 : decode code 334 = .ok (.aload_n 0, 1) := by decide +kernel
theorem d_law_335 : decode code 335 = .ok (.iload 4, 2) := by decide +kernel
theorem d_law_337 : decode code 337 = .ok (.iconst 1, 1) := by decide +kernel
theorem d_law_338 : decode code 338 = .ok (.iadd, 1) := by decide +kernel
theorem d_law_339 : decode code 339 = .ok (.iaload, 1) := by decide +kernel
theorem d_law_340 : decode code 340 = .ok (.aload_n 0, 1) := by decide +kernel
theorem d_law_341 : decode code 341 = .ok (.iload 4, 2) := by decide +kernel
theorem d_law_343 : decode code 343 = .ok (.iconst 2, 1) := by decide +kernel
theorem d_law_344 : decode code 344 = .ok (.iadd, 1) := by decide +kernel
theorem d_law_345 : decode code 345 = .ok (.iaload, 1) := by decide +kernel
theorem d_law_346 : decode code 346 = .ok (.invokevirtual 47, 3) := by decide +kernel
theorem d_law_349 : decode code 349 = .ok (.if_icmp .eq 334, 3) := by decide +kernel
theorem d_law_352 : decode code 352 = .ok (.iconst 0, 1) := by decide +kernel
theorem d_law_353 : decode code 353 = .ok (.ireturn, 1) := by decide +kernel
theorem d_law_354 : decode code 354 = .ok (.aload_n 1, 1) := by decide +kernel
theorem d_law_355 : decode code 355 = .ok (.aload_n 0, 1) := by decide +kernel
theorem d_law_356 : decode code 356 = .ok (.iload 4, 2) := by decide +kernel
theorem d_law_358 : decode code 358 = .ok (.iconst 1, 1) := by decide +kernel
theorem d_law_359 : decode code 359 = .ok (.iadd, 1) := by decide +kernel
theorem d_law_360 : decode code 360 = .ok (.iaload, 1) := by decide +kernel
theorem d_law_361 : decode code 361 = .ok (.aload_n 0, 1) := by decide +kernel
theorem d_law_362 : decode code 362 = .ok (.iload 4, 2) := by decide +kernel
theorem d_law_364 : decode code 364 = .ok (.iconst 2, 1) := by decide +kernel
theorem d_law_365 : decode code 365 = .ok (.iadd, 1) := by decide +kernel
theorem d_law_366 : decode code 366 = .ok (.iaload, 1) := by decide +kernel
theorem d_law_367 : decode code 367 = .ok (.invokevirtual 48, 3) := by decide +kernel
theorem d_law_370 : decode code 370 = .ok (.aload_n 2, 1) := by decide +kernel
theorem d_law_371 : decode code 371 = .ok (.aload_n 0, 1) := by decide +kernel
theorem d_law_372 : decode code 372 = .ok (.iload 4, 2) := by decide +kernel
theorem d_law_374 : decode code 374 = .ok (.iconst 1, 1) := by decide +kernel
theorem d_law_375 : decode code 375 = .ok (.iadd, 1) := by decide +kernel
theorem d_law_376 : decode code 376 = .ok (.iaload, 1) := by decide +kernel
theorem d_law_377 : decode code 377 = .ok (.aload_n 0, 1) := by decide +kernel
theorem d_law_378 : decode code 378 = .ok (.iload 4, 2) := by decide +kernel
theorem d_law_380 : decode code 380 = .ok (.iconst 2, 1) := by decide +kernel
theorem d_law_381 : decode code 381 = .ok (.iadd, 1) := by decide +kernel
theorem d_law_382 : decode code 382 = .ok (.iaload, 1) := by decide +kernel
theorem d_law_383 : decode code 383 = .ok (.invokevirtual 51, 3) := by decide +kernel
theorem d_law_386 : decode code 386 = .ok (.if_icmp .eq 297, 3) := by decide +kernel
theorem d_law_389 : decode code 389 = .ok (.iconst 0, 1) := by decide +kernel
theorem d_law_390 : decode code 390 = .ok (.ireturn, 1) := by decide +kernel
theorem d_law_391 : decode code 391 = .ok (.aload_n 1, 1) := by decide +kernel
theorem d_law_392 : decode code 392 = .ok (.aload_n 0, 1) := by decide +kernel
theorem d_law_393 : decode code 393 = .ok (.iload 4, 2) := by decide +kernel
theorem d_law_395 : decode code 395 = .ok (.iconst 1, 1) := by decide +kernel
theorem d_law_396 : decode code 396 = .ok (.iadd, 1) := by decide +kernel
theorem d_law_397 : decode code 397 = .ok (.iaload, 1) := by decide +kernel
theorem d_law_398 : decode code 398 = .ok (.aload_n 0, 1) := by decide +kernel
theorem d_law_399 : decode code 399 = .ok (.iload 4, 2) := by decide +kernel
theorem d_law_401 : decode code 401 = .ok (.iconst 2, 1) := by decide +kernel
theorem d_law_402 : decode code 402 = .ok (.iadd, 1) := by decide +kernel
theorem d_law_403 : decode code 403 = .ok (.iaload, 1) := by decide +kernel
theorem d_law_404 : decode code 404 = .ok (.invokevirtual 52, 3) := by decide +kernel
theorem d_law_407 : decode code 407 = .ok (.aload_n 2, 1) := by decide +kernel
theorem d_law_408 : decode code 408 = .ok (.aload_n 0, 1) := by decide +kernel
theorem d_law_409 : decode code 409 = .ok (.iload 4, 2) := by decide +kernel
theorem d_law_411 : decode code 411 = .ok (.iconst 1, 1) := by decide +kernel
theorem d_law_412 : decode code 412 = .ok (.iadd, 1) := by decide +kernel
theorem d_law_413 : decode code 413 = .ok (.iaload, 1) := by decide +kernel
theorem d_law_414 : decode code 414 = .ok (.aload_n 0, 1) := by decide +kernel
theorem d_law_415 : decode code 415 = .ok (.iload 4, 2) := by decide +kernel
theorem d_law_417 : decode code 417 = .ok (.iconst 2, 1) := by decide +kernel
theorem d_law_418 : decode code 418 = .ok (.iadd, 1) := by decide +kernel
theorem d_law_419 : decode code 419 = .ok (.iaload, 1) := by decide +kernel
theorem d_law_420 : decode code 420 = .ok (.invokevirtual 55, 3) := by decide +kernel
theorem d_law_423 : decode code 423 = .ok (.if_icmp .eq 260, 3) := by decide +kernel
theorem d_law_426 : decode code 426 = .ok (.iconst 0, 1) := by decide +kernel
theorem d_law_427 : decode code 427 = .ok (.ireturn, 1) := by decide +kernel
theorem d_law_428 : decode code 428 = .ok (.aload_n 1, 1) := by decide +kernel
theorem d_law_429 : decode code 429 = .ok (.aload_n 0, 1) := by decide +kernel
theorem d_law_430 : decode code 430 = .ok (.iload 4, 2) := by decide +kernel
theorem d_law_432 : decode code 432 = .ok (.iconst 1, 1) := by decide +kernel
theorem d_law_433 : decode code 433 = .ok (.iadd, 1) := by decide +kernel
theorem d_law_434 : decode code 434 = .ok (.iaload, 1) := by decide +kernel
theorem d_law_435 : decode code 435 = .ok (.aload_n 0, 1) := by decide +kernel
theorem d_law_436 : decode code 436 = .ok (.iload 4, 2) := by decide +kernel
theorem d_law_438 : decode code 438 = .ok (.iconst 2, 1) := by decide +kernel
theorem d_law_439 : decode code 439 = .ok (.iadd, 1) := by decide +kernel
theorem d_law_440 : decode code 440 = .ok (.iaload, 1) := by decide +kernel
theorem d_law_441 : decode code 441 = .ok (.ifCond .eq 7, 3) := by decide +kernel
theorem d_law_444 : decode code 444 = .ok (.iconst 1, 1) := by decide +kernel
theorem d_law_445 : decode code 445 = .ok (.goto 4, 3) := by decide +kernel
theorem d_law_448 : decode code 448 = .ok (.iconst 0, 1) := by decide +kernel
theorem d_law_449 : decode code 449 = .ok (.aload_n 0, 1) := by decide +kernel
theorem d_law_450 : decode code 450 = .ok (.iload 4, 2) := by decide +kernel
theorem d_law_452 : decode code 452 = .ok (.iconst 3, 1) := by decide +kernel
theorem d_law_453 : decode code 453 = .ok (.iadd, 1) := by decide +kernel
theorem d_law_454 : decode code 454 = .ok (.iaload, 1) := by decide +kernel
theorem d_law_455 : decode code 455 = .ok (.aload_n 0, 1) := by decide +kernel
theorem d_law_456 : decode code 456 = .ok (.iload 4, 2) := by decide +kernel
theorem d_law_458 : decode code 458 = .ok (.iconst 4, 1) := by decide +kernel
theorem d_law_459 : decode code 459 = .ok (.iadd, 1) := by decide +kernel
theorem d_law_460 : decode code 460 = .ok (.iaload, 1) := by decide +kernel
theorem d_law_461 : decode code 461 = .ok (.invokevirtual 56, 3) := by decide +kernel
theorem d_law_464 : decode code 464 = .ok (.aload_n 2, 1) := by decide +kernel
theorem d_law_465 : decode code 465 = .ok (.aload_n 0, 1) := by decide +kernel
theorem d_law_466 : decode code 466 = .ok (.iload 4, 2) := by decide +kernel
theorem d_law_468 : decode code 468 = .ok (.iconst 1, 1) := by decide +kernel
theorem d_law_469 : decode code 469 = .ok (.iadd, 1) := by decide +kernel
theorem d_law_470 : decode code 470 = .ok (.iaload, 1) := by decide +kernel
theorem d_law_471 : decode code 471 = .ok (.aload_n 0, 1) := by decide +kernel
theorem d_law_472 : decode code 472 = .ok (.iload 4, 2) := by decide +kernel
theorem d_law_474 : decode code 474 = .ok (.iconst 2, 1) := by decide +kernel
theorem d_law_475 : decode code 475 = .ok (.iadd, 1) := by decide +kernel
theorem d_law_476 : decode code 476 = .ok (.iaload, 1) := by decide +kernel
theorem d_law_477 : decode code 477 = .ok (.ifCond .eq 7, 3) := by decide +kernel
theorem d_law_480 : decode code 480 = .ok (.iconst 1, 1) := by decide +kernel
theorem d_law_481 : decode code 481 = .ok (.goto 4, 3) := by decide +kernel
theorem d_law_484 : decode code 484 = .ok (.iconst 0, 1) := by decide +kernel
theorem d_law_485 : decode code 485 = .ok (.aload_n 0, 1) := by decide +kernel
theorem d_law_486 : decode code 486 = .ok (.iload 4, 2) := by decide +kernel
theorem d_law_488 : decode code 488 = .ok (.iconst 3, 1) := by decide +kernel
theorem d_law_489 : decode code 489 = .ok (.iadd, 1) := by decide +kernel
theorem d_law_490 : decode code 490 = .ok (.iaload, 1) := by decide +kernel
theorem d_law_491 : decode code 491 = .ok (.aload_n 0, 1) := by decide +kernel
theorem d_law_492 : decode code 492 = .ok (.iload 4, 2) := by decide +kernel
theorem d_law_494 : decode code 494 = .ok (.iconst 4, 1) := by decide +kernel
theorem d_law_495 : decode code 495 = .ok (.iadd, 1) := by decide +kernel
theorem d_law_496 : decode code 496 = .ok (.iaload, 1) := by decide +kernel
theorem d_law_497 : decode code 497 = .ok (.invokevirtual 60, 3) := by decide +kernel
theorem d_law_500 : decode code 500 = .ok (.if_icmp .eq 183, 3) := by decide +kernel
theorem d_law_503 : decode code 503 = .ok (.iconst 0, 1) := by decide +kernel
theorem d_law_504 : decode code 504 = .ok (.ireturn, 1) := by decide +kernel
theorem d_law_505 : decode code 505 = .ok (.aload_n 1, 1) := by decide +kernel
theorem d_law_506 : decode code 506 = .ok (.aload_n 0, 1) := by decide +kernel
theorem d_law_507 : decode code 507 = .ok (.iload 4, 2) := by decide +kernel
theorem d_law_509 : decode code 509 = .ok (.iconst 1, 1) := by decide +kernel
theorem d_law_510 : decode code 510 = .ok (.iadd, 1) := by decide +kernel
theorem d_law_511 : decode code 511 = .ok (.iaload, 1) := by decide +kernel
theorem d_law_512 : decode code 512 = .ok (.aload_n 0, 1) := by decide +kernel
theorem d_law_513 : decode code 513 = .ok (.iload 4, 2) := by decide +kernel
theorem d_law_515 : decode code 515 = .ok (.iconst 2, 1) := by decide +kernel
theorem d_law_516 : decode code 516 = .ok (.iadd, 1) := by decide +kernel
theorem d_law_517 : decode code 517 = .ok (.iaload, 1) := by decide +kernel
theorem d_law_518 : decode code 518 = .ok (.aload_n 0, 1) := by decide +kernel
theorem d_law_519 : decode code 519 = .ok (.iload 4, 2) := by decide +kernel
theorem d_law_521 : decode code 521 = .ok (.iconst 3, 1) := by decide +kernel
theorem d_law_522 : decode code 522 = .ok (.iadd, 1) := by decide +kernel
theorem d_law_523 : decode code 523 = .ok (.iaload, 1) := by decide +kernel
theorem d_law_524 : decode code 524 = .ok (.invokevirtual 61, 3) := by decide +kernel
theorem d_law_527 : decode code 527 = .ok (.aload_n 2, 1) := by decide +kernel
theorem d_law_528 : decode code 528 = .ok (.aload_n 0, 1) := by decide +kernel
theorem d_law_529 : decode code 529 = .ok (.iload 4, 2) := by decide +kernel
theorem d_law_531 : decode code 531 = .ok (.iconst 1, 1) := by decide +kernel
theorem d_law_532 : decode code 532 = .ok (.iadd, 1) := by decide +kernel
theorem d_law_533 : decode code 533 = .ok (.iaload, 1) := by decide +kernel
theorem d_law_534 : decode code 534 = .ok (.aload_n 0, 1) := by decide +kernel
theorem d_law_535 : decode code 535 = .ok (.iload 4, 2) := by decide +kernel
theorem d_law_537 : decode code 537 = .ok (.iconst 2, 1) := by decide +kernel
theorem d_law_538 : decode code 538 = .ok (.iadd, 1) := by decide +kernel
theorem d_law_539 : decode code 539 = .ok (.iaload, 1) := by decide +kernel
theorem d_law_540 : decode code 540 = .ok (.aload_n 0, 1) := by decide +kernel
theorem d_law_541 : decode code 541 = .ok (.iload 4, 2) := by decide +kernel
theorem d_law_543 : decode code 543 = .ok (.iconst 3, 1) := by decide +kernel
theorem d_law_544 : decode code 544 = .ok (.iadd, 1) := by decide +kernel
theorem d_law_545 : decode code 545 = .ok (.iaload, 1) := by decide +kernel
theorem d_law_546 : decode code 546 = .ok (.invokevirtual 64, 3) := by decide +kernel
theorem d_law_549 : decode code 549 = .ok (.if_icmp .eq 134, 3) := by decide +kernel
theorem d_law_552 : decode code 552 = .ok (.iconst 0, 1) := by decide +kernel
theorem d_law_553 : decode code 553 = .ok (.ireturn, 1) := by decide +kernel
theorem d_law_554 : decode code 554 = .ok (.aload_n 1, 1) := by decide +kernel
theorem d_law_555 : decode code 555 = .ok (.aload_n 0, 1) := by decide +kernel
theorem d_law_556 : decode code 556 = .ok (.iload 4, 2) := by decide +kernel
theorem d_law_558 : decode code 558 = .ok (.iconst 1, 1) := by decide +kernel
theorem d_law_559 : decode code 559 = .ok (.iadd, 1) := by decide +kernel
theorem d_law_560 : decode code 560 = .ok (.iaload, 1) := by decide +kernel
theorem d_law_561 : decode code 561 = .ok (.aload_n 0, 1) := by decide +kernel
theorem d_law_562 : decode code 562 = .ok (.iload 4, 2) := by decide +kernel
theorem d_law_564 : decode code 564 = .ok (.iconst 2, 1) := by decide +kernel
theorem d_law_565 : decode code 565 = .ok (.iadd, 1) := by decide +kernel
theorem d_law_566 : decode code 566 = .ok (.iaload, 1) := by decide +kernel
theorem d_law_567 : decode code 567 = .ok (.aload_n 0, 1) := by decide +kernel
theorem d_law_568 : decode code 568 = .ok (.iload 4, 2) := by decide +kernel
theorem d_law_570 : decode code 570 = .ok (.iconst 3, 1) := by decide +kernel
theorem d_law_571 : decode code 571 = .ok (.iadd, 1) := by decide +kernel
theorem d_law_572 : decode code 572 = .ok (.iaload, 1) := by decide +kernel
theorem d_law_573 : decode code 573 = .ok (.aload_n 3, 1) := by decide +kernel
theorem d_law_574 : decode code 574 = .ok (.invokestatic 65, 3) := by decide +kernel
theorem d_law_577 : decode code 577 = .ok (.istore 5, 2) := by decide +kernel
theorem d_law_579 : decode code 579 = .ok (.aload_n 2, 1) := by decide +kernel
theorem d_law_580 : decode code 580 = .ok (.aload_n 0, 1) := by decide +kernel
theorem d_law_581 : decode code 581 = .ok (.iload 4, 2) := by decide +kernel
theorem d_law_583 : decode code 583 = .ok (.iconst 1, 1) := by decide +kernel
theorem d_law_584 : decode code 584 = .ok (.iadd, 1) := by decide +kernel
theorem d_law_585 : decode code 585 = .ok (.iaload, 1) := by decide +kernel
theorem d_law_586 : decode code 586 = .ok (.aload_n 0, 1) := by decide +kernel
theorem d_law_587 : decode code 587 = .ok (.iload 4, 2) := by decide +kernel
theorem d_law_589 : decode code 589 = .ok (.iconst 2, 1) := by decide +kernel
theorem d_law_590 : decode code 590 = .ok (.iadd, 1) := by decide +kernel
theorem d_law_591 : decode code 591 = .ok (.iaload, 1) := by decide +kernel
theorem d_law_592 : decode code 592 = .ok (.aload_n 0, 1) := by decide +kernel
theorem d_law_593 : decode code 593 = .ok (.iload 4, 2) := by decide +kernel
theorem d_law_595 : decode code 595 = .ok (.iconst 3, 1) := by decide +kernel
theorem d_law_596 : decode code 596 = .ok (.iadd, 1) := by decide +kernel
theorem d_law_597 : decode code 597 = .ok (.iaload, 1) := by decide +kernel
theorem d_law_598 : decode code 598 = .ok (.invokevirtual 70, 3) := by decide +kernel
theorem d_law_601 : decode code 601 = .ok (.lstore 6, 2) := by decide +kernel
theorem d_law_603 : decode code 603 = .ok (.aload_n 2, 1) := by decide +kernel
theorem d_law_604 : decode code 604 = .ok (.invokevirtual 71, 3) := by decide +kernel
theorem d_law_607 : decode code 607 = .ok (.iload 5, 2) := by decide +kernel
theorem d_law_609 : decode code 609 = .ok (.if_icmp .eq 5, 3) := by decide +kernel
theorem d_law_612 : decode code 612 = .ok (.iconst 0, 1) := by decide +kernel
theorem d_law_613 : decode code 613 = .ok (.ireturn, 1) := by decide +kernel
theorem d_law_614 : decode code 614 = .ok (.iload 5, 2) := by decide +kernel
theorem d_law_616 : decode code 616 = .ok (.ifCond .ne 14, 3) := by decide +kernel
theorem d_law_619 : decode code 619 = .ok (.aload_n 3, 1) := by decide +kernel
theorem d_law_620 : decode code 620 = .ok (.iconst 0, 1) := by decide +kernel
theorem d_law_621 : decode code 621 = .ok (.laload, 1) := by decide +kernel
theorem d_law_622 : decode code 622 = .ok (.lload 6, 2) := by decide +kernel
theorem d_law_624 : decode code 624 = .ok (.lcmp, 1) := by decide +kernel
theorem d_law_625 : decode code 625 = .ok (.ifCond .eq 5, 3) := by decide +kernel
theorem d_law_628 : decode code 628 = .ok (.iconst 0, 1) := by decide +kernel
theorem d_law_629 : decode code 629 = .ok (.ireturn, 1) := by decide +kernel
theorem d_law_630 : decode code 630 = .ok (.goto 53, 3) := by decide +kernel
theorem d_law_633 : decode code 633 = .ok (.aload_n 1, 1) := by decide +kernel
theorem d_law_634 : decode code 634 = .ok (.aload_n 0, 1) := by decide +kernel
theorem d_law_635 : decode code 635 = .ok (.iload 4, 2) := by decide +kernel
theorem d_law_637 : decode code 637 = .ok (.iconst 1, 1) := by decide +kernel
theorem d_law_638 : decode code 638 = .ok (.iadd, 1) := by decide +kernel
theorem d_law_639 : decode code 639 = .ok (.iaload, 1) := by decide +kernel
theorem d_law_640 : decode code 640 = .ok (.invokevirtual 74, 3) := by decide +kernel
theorem d_law_643 : decode code 643 = .ok (.aload_n 2, 1) := by decide +kernel
theorem d_law_644 : decode code 644 = .ok (.aload_n 0, 1) := by decide +kernel
theorem d_law_645 : decode code 645 = .ok (.iload 4, 2) := by decide +kernel
theorem d_law_647 : decode code 647 = .ok (.iconst 1, 1) := by decide +kernel
theorem d_law_648 : decode code 648 = .ok (.iadd, 1) := by decide +kernel
theorem d_law_649 : decode code 649 = .ok (.iaload, 1) := by decide +kernel
theorem d_law_650 : decode code 650 = .ok (.invokevirtual 78, 3) := by decide +kernel
theorem d_law_653 : decode code 653 = .ok (.if_icmp .eq 30, 3) := by decide +kernel
theorem d_law_656 : decode code 656 = .ok (.iconst 0, 1) := by decide +kernel
theorem d_law_657 : decode code 657 = .ok (.ireturn, 1) := by decide +kernel
theorem d_law_658 : decode code 658 = .ok (.aload_n 1, 1) := by decide +kernel
theorem d_law_659 : decode code 659 = .ok (.aload_n 0, 1) := by decide +kernel
theorem d_law_660 : decode code 660 = .ok (.iload 4, 2) := by decide +kernel
theorem d_law_662 : decode code 662 = .ok (.iconst 1, 1) := by decide +kernel
theorem d_law_663 : decode code 663 = .ok (.iadd, 1) := by decide +kernel
theorem d_law_664 : decode code 664 = .ok (.iaload, 1) := by decide +kernel
theorem d_law_665 : decode code 665 = .ok (.invokevirtual 79, 3) := by decide +kernel
theorem d_law_668 : decode code 668 = .ok (.aload_n 2, 1) := by decide +kernel
theorem d_law_669 : decode code 669 = .ok (.aload_n 0, 1) := by decide +kernel
theorem d_law_670 : decode code 670 = .ok (.iload 4, 2) := by decide +kernel
theorem d_law_672 : decode code 672 = .ok (.iconst 1, 1) := by decide +kernel
theorem d_law_673 : decode code 673 = .ok (.iadd, 1) := by decide +kernel
theorem d_law_674 : decode code 674 = .ok (.iaload, 1) := by decide +kernel
theorem d_law_675 : decode code 675 = .ok (.invokevirtual 82, 3) := by decide +kernel
theorem d_law_678 : decode code 678 = .ok (.if_icmp .eq 5, 3) := by decide +kernel
theorem d_law_681 : decode code 681 = .ok (.iconst 0, 1) := by decide +kernel
theorem d_law_682 : decode code 682 = .ok (.ireturn, 1) := by decide +kernel
theorem d_law_683 : decode code 683 = .ok (.iinc 4 5, 3) := by decide +kernel
theorem d_law_686 : decode code 686 = .ok (.goto (-663), 3) := by decide +kernel
theorem d_law_689 : decode code 689 = .ok (.iconst 1, 1) := by decide +kernel
theorem d_law_690 : decode code 690 = .ok (.ireturn, 1) := by decide +kernel
end
section
abbrev kw_L : Cond := .codeWith y_L_share b_L_share 6 (some .int) [(0, 11, 14, 13)]
theorem ci_L_share : kw_L ∈ tb_l := in_tb 191 (by decide +kernel) (by decide +kernel)
theorem cl_L_13 : Cond.classLink R_L 13 AE_n ∈ tb_l := in_tb 192 (by decide +kernel) (by decide +kernel)
def w_S (q : Nat → Nat) (k : Nat → ClassId) (qo : Nat) (co : ClassId) (u : sx_T × (Nat → Int64)) : va_W := w_X q k u.1 ++ [(qo, .inl (co, 1, .inr (.inl u.2)))]
abbrev ty_S (k : Nat → ClassId) (co : ClassId) : List (ClassId × FieldType) := [(k 1, .long), (k 2, .long), (k 3, .int), (k 4, .boolean), (k 5, .int), (co, .long)]
abbrev rm_L_share : Room := { frames := 7, cells := 1, slots := 6, locals := 110 }
def fx_MS (l : Launch) (D : va_G) (q : Nat → Nat) (k : Nat → ClassId) (qo : Nat) (co : ClassId) (u0 : sx_T × (Nat → Int64)) (As : List Value) (sa : Nat) (post : Int32 → sx_T × (Nat → Int64) → Prop) : Prop :=
  ∀ sz : Nat, Met l y_L_share (kw_L :: tb_l) rm_L_share (fx_PreX D cl_s (ty_S k co) (w_S q k qo co u0) As sz sa) (va_Qi post (fun u t => fx_At D cl_s (ty_S k co) (va_A (w_S q k qo co u0) sz) (w_S q k qo co u) t) (va_A (w_S q k qo co u0) sz)) 1 6 (va_A (w_S q k qo co u0) sz)
set_option maxHeartbeats 4000000 in
set_option maxRecDepth 100000 in
theorem cL_share (l : Launch) (D : va_G) (q : Nat → Nat) (k : Nat → ClassId) (qo : Nat) (co : ClassId) (σ : sx_T) (f : Nat → Int64) (a : ab_T) (hlt : l.stackTraces = false) (hx0 : rx_r a σ) (y z sd : Int32) (sa : Nat) : fx_MS l D q k qo co (σ, f) [.ref (q 0), .int y, .int z, .int sd, .ref qo] sa (fun r u => rx_r a u.1 ∧ ((r = nI 0 ∧ sp_share a y z sd = some (u.2 0)) ∨ (r = nI 1 ∧ sp_share a y z sd = none))) := by
  intro sz
  refine va_MetW (cc := b_L_share) (maxL := 6) (ret := some .int) (by decide +kernel) rfl ?_
  intro p e s m args below meth c s₁ B hml hv
  obtain ⟨rfl, ⟨hsz, hP, hK, hD0⟩, hE⟩ := hv
  have hx := B.exec
  have hb := B.bytes
  have hr := B.returns
  have hts := atoms_spec (ws := kw_L :: tb_l) B.pre
  have hown : s.vm.findClass R_L = some m.cls := findClass_of_methodNamed B.named
  have hlocks : meth.locks = false := B.notSynchronized
  have htab : c.exceptionTable.toList = [] ++ (⟨0, 11, 14, 13⟩ : ExceptionTableEntry) :: [] := vx_table (x := y_L_share) B (hts kw_L List.mem_cons_self)
  subst hsz
  have hD := hD0.self (sz := s.heap.size)
  have hl := lv_entry [.ref (q 0), .int y, .int z, .int sd, .ref qo] (n := 6) (Nat.le_of_ble_eq_true rfl)
  rw [lg_entry_eq]
  obtain ⟨A, hAe⟩ : ∃ A, A = va_A (w_S q k qo co (σ, f)) s.heap.size := ⟨_, rfl⟩
  rw [← hAe] at hD ⊢
  have hA : ∀ q, s.heap.size ≤ q → A q := fun q h => by rw [hAe]; exact Or.inr h
  rw [← hAe] at hE
  obtain ⟨X, eX⟩ : ∃ X : fx_M, X = ((p, l, e, rm_L_share), (s, m, #[.ref (q 0), .int y, .int z, .int sd, .ref qo], below), (meth, c, MQ below (va_Qi (fun r u => rx_r a u.1 ∧ ((r = nI 0 ∧ sp_share a y z sd = some (u.2 0)) ∨ (r = nI 1 ∧ sp_share a y z sd = none))) (fun u t => fx_At D cl_s (ty_S k co) A (w_S q k qo co u) t) A) #[.ref (q 0), .int y, .int z, .int sd, .ref qo] s 1 6 A), (D, cl_s, A), (6, 0, 0)) := ⟨_, rfl⟩
  have C : fx_C X l rm_L_share D cl_s (ty_S k co) b_L_share (kw_L :: tb_l) R_L := by
    rw [eX]
    exact ⟨hx, hb, hml, hown, hts, hK, hA, rfl, rfl, rfl, rfl, Nat.zero_le _, Nat.zero_le _⟩
  have C0 := C
  have start : fx_J X (w_S q k qo co (σ, f)) 0 [some (.ref (q 0)), some (.int y), some (.int z), some (.int sd), some (.ref qo), none] [] := by
    refine jr_aload_4 C d_L_share_0 ?_
    refine jr_iconst (v := nI 0) C d_L_share_2 (by decide) ?_
    refine jr_aload_0 C d_L_share_3 ?_
    refine jr_iload_1 C d_L_share_4 ?_
    refine jr_iload_2 C d_L_share_5 ?_
    refine jr_iload_3 C d_L_share_6 ?_
    -- the ends
    have C : fx_C (fx_up X 1 6) l rm_L_share D cl_s (ty_S k co) b_L_share (kw_L :: tb_l) R_L := by
      rw [eX]
      exact ⟨hx, hb, hml, hown, hts, hK, hA, rfl, rfl, rfl, rfl, Nat.le_refl _, Nat.le_refl _⟩
    have hR : ∀ (r : Int32) (u : sx_T × (Nat → Int64)) (pc : Nat) (pl2 : List (Option Value)), decode b_L_share pc = .ok (.ireturn, 1) → narrow .int (.int r) = .int r → (rx_r a u.1 ∧ ((r = nI 0 ∧ sp_share a y z sd = some (u.2 0)) ∨ (r = nI 1 ∧ sp_share a y z sd = none))) → fx_J (fx_up X 1 6) (w_S q k qo co u) pc pl2 [.int r] := by
      rw [eX]
      intro r u pc pl2 hd hn hp H locs ls hP2 hD2 hS2 hl2
      exact W.iret (v := r) hx hb hr (fun t ht hW => ⟨⟨r, u, rfl, hp, by rw [ht]; exact hP2, va_K.moved hW.alike hK, hD2⟩, hS2.F ht⟩) hS2.2.2 hd hlocks
    have go10 : ∀ (u : sx_T) (r : Int64), sp_share a y z sd = some r ∧ rx_r a u → fx_J (fx_up X 1 6) (w_S q k qo co (u, f)) 10 [some (.ref (q 0)), some (.int y), some (.int z), some (.int sd), some (.ref qo), none] [.long r, .int (nI 0), .ref qo] := by
      intro u r h
      refine jr_last (ws2 := w_S q k qo co (u, vp_updL f 0 r)) C 6 5 rfl rfl (by decide) (by decide) rfl d_L_share_10 ?_
      refine jr_goto (tgt := 18) C d_L_share_11 (by decide) ?_
      refine jr_iconst (v := nI 0) C d_L_share_18 (by decide) ?_
      exact hR _ _ _ _ d_L_share_19 rfl ⟨h.2, Or.inl ⟨rfl, by rw [h.1]; show some r = some (vp_updL f 0 r 0); rw [pk_uLs]⟩⟩
    have go14 : ∀ (u : sx_T) (q9 : Nat), sp_share a y z sd = none ∧ rx_r a u → fx_J (fx_up X 1 6) (w_S q k qo co (u, f)) 14 [some (.ref (q 0)), some (.int y), some (.int z), some (.int sd), some (.ref qo), none] [.ref q9] := by
      intro u q9 h
      refine jr_astore_5 C d_L_share_14 rfl ?_
      refine jr_iconst (v := nI 1) C d_L_share_16 (by decide) ?_
      exact hR _ _ _ _ d_L_share_17 rfl ⟨h.2, Or.inr ⟨rfl, h.1⟩⟩
    rw [eX] at go10 go14 ⊢
    intro H locs ls hP hD hS hl
    have hPc := hP.sub (ws' := w_X q k σ) [0, 1, 2, 3, 4, 5] rfl
    have hDc := hD.sub (ws' := w_X q k σ) [0, 1, 2, 3, 4, 5] (by decide) rfl
    have hKc := hK.sub (tys' := ty_X k) [0, 1, 2, 3, 4] rfl
    have hFc := va_free (wc := w_X q k σ) hD hS hA [0, 1, 2, 3, 4, 5] rfl
    have hEc : ex_P sa (va_A (w_X q k σ) H.size) s H := (hE.kept (fun a h1 h2 => hS.2.1 a h1 h2)).narrow hFc
    have hcast := hE.2.2.2.1
    refine vx_calll (vx_runV (As := [.int y, .int z, .int sd]) (rest := [.int (nI 0), .ref qo]) ⟨hx, hb, hml, hown, hts⟩ (cX_share l D q k σ a hlt hx0 y z sd sa H.size) (cwV 3 hts (gd_V ci_X_share ml_L_X_share im_X_share se_X_share ii_X) rfl rfl rfl (by decide +kernel) ⟨Nat.le_of_ble_eq_true rfl, Nat.le_of_ble_eq_true rfl⟩) ⟨fx_blindX, va_recv hKc hPc (ci := 0) (q0 := 0) rfl rfl, fun U hU hW => ⟨rfl, ⟨by rw [hU], by rw [hU]; exact hPc, va_K.moved hW.alike hKc, hDc.weaken (fun _ _ _ _ => trivial)⟩, by rw [hU]; exact hEc.warm hW⟩⟩ rfl rfl hl.2.1 rfl (lv_room (Nat.le_of_ble_eq_true rfl)) d_L_share_7 ⟨Nat.le_of_ble_eq_true rfl, Nat.le_of_ble_eq_true rfl⟩) hS (fun q _ h => hFc q h) hFc (fun q _ h => hFc q h) (fun E ce q9 u t H1 locs1 ht hvm hpx hBX hz1 hk1 hS1 hcell hcv hcl => ?_) (fun r u t H1 locs1 ht hvm hw hB hz1 hk1 hS1 => ?_)
    · obtain ⟨rfl, hP1, hK1, hD1⟩ := hBX
      rw [ht] at hP1
      obtain ⟨hP2, hD2⟩ := va_join (wr := [(qo, .inl (co, 1, .inr (.inl f)))]) (w1 := w_X q k u) hP hD [0, 1, 2, 3, 4, 5] [6] rfl rfl (by decide) (by decide) hk1 hFc hP1 hD1
      refine vx_catch hown [] ⟨0, 11, 14, 13⟩ [] htab (fun z hz => by cases hz) (by decide) (by decide) (hts _ (List.mem_cons_of_mem _ cl_L_13)) (va_Nw.use rfl hcast) hcell hcv hcl ?_
      exact go14 u q9 hpx H1 locs1 ls (hP2.sub [1, 2, 3, 4, 5, 6, 0] rfl) (hD2.sub [1, 2, 3, 4, 5, 6, 0] (by decide) rfl) hS1 hl
    · obtain ⟨hP1, hK1, hD1⟩ := hB
      rw [ht] at hP1
      obtain ⟨hP2, hD2⟩ := va_join (wr := [(qo, .inl (co, 1, .inr (.inl f)))]) (w1 := w_X q k u) hP hD [0, 1, 2, 3, 4, 5] [6] rfl rfl (by decide) (by decide) hk1 hFc hP1 hD1
      exact go10 u r hw H1 locs1 ls (hP2.sub [1, 2, 3, 4, 5, 6, 0] rfl) (hD2.sub [1, 2, 3, 4, 5, 6, 0] (by decide) rfl) hS1 hl
  rw [eX] at start
  exact start s.heap [] _ hP hD va_S.rf ⟨Nat.le_of_ble_eq_true rfl, hl⟩
end
section
theorem rc_some {n : Nat} {x : Int32} {r : Nat} (h : rc_o n x = some r) : 1 ≤ r ∧ r ≤ n := by
  unfold rc_o at h
  split at h
  · cases h
    omega
  · cases h
theorem ix_some {N : Nat} {x : Int32} {j : Nat} (h : ix_o N x = some j) : j < N := by
  unfold ix_o at h
  split at h
  · cases h
    omega
  · cases h
theorem wf_record {a : ab_T} (hw : a_wf a) : a_wf (sp_record a).2 := by
  unfold sp_record
  split
  · exact hw
  · exact wf_rec hw (by have := hw.1; omega)
theorem wf_value {a : ab_T} (hw : a_wf a) (x y z : Int32) : a_wf (sp_value a x y z).2 := by
  unfold sp_value
  split
  · next r f v h1 h2 h3 =>
    split
    · exact hw
    · next h => exact wf_val hw (rc_some h1).1 (rc_some h1).2 (by have := hw.2.1; omega)
  · exact hw
theorem wf_gone {a : ab_T} (hw : a_wf a) (x y z : Int32) : a_wf (sp_gone a x y z).2 := by
  unfold sp_gone
  split
  · split
    · exact wf_gon hw
    · exact hw
  · exact hw
theorem wf_narrower {a : ab_T} (hw : a_wf a) (x y z : Int32) : a_wf (sp_narrower a x y z).2 := by
  unfold sp_narrower
  split
  · next f v h1 h2 =>
    split
    · exact wf_nar hw (ix_some h2) (Nat.le_refl _) (fun h => by omega)
    · split
      · next u h3 =>
        split
        · exact hw
        · next h4 => exact wf_nar hw (ix_some h2) (Nat.le_of_lt (ix_some h3)) (fun _ h => h4 (bx_iff.mpr h))
      · exact hw
  · exact hw
theorem wf_hit {a : ab_T} (hw : a_wf a) (x : Int32) (on : Bool) : a_wf (sp_hit a x on).2 := by
  unfold sp_hit
  split
  · next r h => exact wf_hiS hw (rc_some h).1 (rc_some h).2
  · exact hw
theorem wf_choose {a : ab_T} (hw : a_wf a) (y z : Int32) : a_wf (sp_choose a y z).2 := by
  unfold sp_choose
  split
  · exact wf_chS hw
  · exact hw
theorem fn_top {a : ab_T} {y i r s : Int32} (h1 : sp_top a y i r) (h2 : sp_top a y i s) : r = s := by
  unfold sp_top at h1 h2
  split at h1
  · next f h => rw [h] at h2; exact rk_fun h1 h2
  · next h => rw [h] at h2; exact h1.trans h2.symm
theorem fn_below {a : ab_T} {y : Int32} {b : Bool} {z i r s : Int32} (h1 : sp_below a y b z i r) (h2 : sp_below a y b z i s) : r = s := by
  unfold sp_below at h1 h2
  split at h1
  · next f h =>
    rw [h] at h2
    dsimp only at h1 h2
    split at h1
    · next hb => rw [if_pos hb] at h2; exact rk_fun h1 h2
    · next hb =>
      rw [if_neg hb] at h2
      split at h1
      · next p hp => rw [hp] at h2; exact rk_fun h1 h2
      · next hp => rw [hp] at h2; exact h1.trans h2.symm
  · next h => rw [h] at h2; exact h1.trans h2.symm
theorem fn_left {a : ab_T} {i r s : Int32} (h1 : sp_left a i r) (h2 : sp_left a i s) : r = s := by
  have key : ∀ u v, u < 64 → v < 64 → a_left a u → a_left a v → nI (ct_n (fun s => bx_b (a_left a s)) u) = nI (ct_n (fun s => bx_b (a_left a s)) v) → ¬ u < v := by
    intro u v hu hv lu lv e h
    have e := (nI_eq (by have := ct_le (fun s => bx_b (a_left a s)) u; omega) (by have := ct_le (fun s => bx_b (a_left a s)) v; omega)).mp e
    have h3 : ct_n (fun s => bx_b (a_left a s)) (u + 1) ≤ ct_n (fun s => bx_b (a_left a s)) v := by
      obtain ⟨d, rfl⟩ : ∃ d, v = (u + 1) + d := ⟨v - (u + 1), by omega⟩
      rw [ct_shift _ (u + 1) d]
      omega
    rw [ct_st (p := fun s => bx_b (a_left a s)) (bx_iff.mpr lu)] at h3
    omega
  rcases h1 with ⟨u, hu, lu, eu, rfl⟩ | ⟨rfl, h1⟩
  · rcases h2 with ⟨v, hv, lv, ev, rfl⟩ | ⟨rfl, h2⟩
    · have h3 := key u v hu hv lu lv (eu.trans ev.symm)
      have h4 := key v u hv hu lv lu (ev.trans eu.symm)
      rw [show u = v by omega]
    · exact absurd eu (h2 u hu lu)
  · rcases h2 with ⟨v, hv, lv, ev, rfl⟩ | ⟨rfl, h2⟩
    · exact absurd ev (h1 v hv lv)
    · rfl
section LW
variable {X : fx_M} {l : Launch} {rm : Room} {D : va_G} {cl : List vw_C} {tys : List (ClassId × FieldType)} {cc : ByteArray} {Ts : List Cond} {own : String} {ws : va_W} {pc : Nat} {pl : List (Option Value)} {st : List Value}
theorem jr_widen {a b : Nat} (k : fx_J (fx_up X a b) ws pc pl st) : fx_J X ws pc pl st := fun H locs ls hP hD hS hl => W.widen (k := X.2.2.2.2.2.1 + a) (n := X.2.2.2.2.2.2 + b) (Nat.le_add_right _ _) (Nat.le_add_right _ _) (k H locs ls hP hD hS hl)
theorem jr_tin {dflt lo hi : Int} {offs : Array Int} {len : Nat} {x : Int32} {off : Int} {tgt : Nat} (C : fx_C X l rm D cl tys cc Ts own) (hd : decode cc pc = .ok (.tableswitch dflt lo hi offs, len)) (h1 : ¬ x.toInt < lo) (h2 : ¬ hi < x.toInt) (ho : offs[(x.toInt - lo).toNat]? = some off) (ht : (pc : Int) + off = (tgt : Int)) (k : fx_J X ws tgt pl st) : fx_J X ws pc pl (.int x :: st) := fun H locs ls hP hD hS hl => lv_tableIn C.1 C.2.1 hd h1 h2 ho ht (k H locs ls hP hD hS hl)
theorem jr_tout {dflt lo hi : Int} {offs : Array Int} {len : Nat} {x : Int32} {tgt : Nat} (C : fx_C X l rm D cl tys cc Ts own) (hd : decode cc pc = .ok (.tableswitch dflt lo hi offs, len)) (h : x.toInt < lo ∨ hi < x.toInt) (ht : (pc : Int) + dflt = (tgt : Int)) (k : fx_J X ws tgt pl st) : fx_J X ws pc pl (.int x :: st) := fun H locs ls hP hD hS hl => lv_tableOut C.1 C.2.1 hd h ht (k H locs ls hP hD hS hl)
theorem jr_sld {b L j : Nat} {xs : Nat → Int32} (C : fx_C X l rm D cl tys cc Ts own) (hX : va_X b L xs X.2.1.1 X.2.1.1.heap) (hbl : b < X.2.1.1.heap.size) (hbA : ¬ X.2.2.2.1.2.2 b) (hj : j < L) (hL : L < 2 ^ 31) (hd : decode cc pc = .ok (.iaload, 1)) (kk : fx_J X ws (pc + 1) pl (.int (xs j) :: st)) : fx_J X ws pc pl (.int (nI j) :: .ref b :: st) := fun H locs ls hP hD hS hl => va_sld C.1 C.2.1 hX hbl hbA hS (vp_in_nI hj hL) hd (by rw [nI_clamp (by omega)]; exact kk H locs ls hP hD hS hl)
theorem jr_slen {b L : Nat} {xs : Nat → Int32} (C : fx_C X l rm D cl tys cc Ts own) (hX : va_X b L xs X.2.1.1 X.2.1.1.heap) (hbl : b < X.2.1.1.heap.size) (hbA : ¬ X.2.2.2.1.2.2 b) (hd : decode cc pc = .ok (.arraylength, 1)) (kk : fx_J X ws (pc + 1) pl (.int (nI L) :: st)) : fx_J X ws pc pl (.ref b :: st) := fun H locs ls hP hD hS hl => va_slen C.1 C.2.1 hX hbl hbA hS hd (kk H locs ls hP hD hS hl)
theorem jr_new {Cn : String} {T : u_T} {N ci index : Nat} {fs : List Value} (C : fx_C X l rm D cl tys cc Ts own) (hin : ∀ w ∈ u_ws Cn T N, w ∈ Ts) (ty : Nat → FieldType) (hty : ∀ k, k < N → parseFieldDescriptor (T k).2.2.1 = some (ty k)) (hcl : Cond.classLink own index Cn ∈ Ts) (hinst : Cond.instantiable Cn N ∈ Ts) (hini : Cond.initialized Cn ∈ Ts) (hc : cl[ci]? = some (Cn, T, N)) (hfs : ∀ j, j < N → defaultValue (ty j) = vp_V fs j) (hcells : X.2.2.2.2.2.1 + 1 ≤ rm.cells) (hslots : X.2.2.2.2.2.2 + N ≤ rm.slots) (hd : decode cc pc = .ok (.new index, 3))
    (kk : ∀ q : Nat, fx_C (fx_up X 1 N) l rm D cl tys cc Ts own → fx_J (fx_up X 1 N) (ws ++ [(q, .inr (ci, fs))]) (pc + 3) pl (.ref q :: st)) : fx_J X ws pc pl st := by
  intro H locs ls hP hD hS hl
  obtain ⟨hx, hb, hml, hown, hts, hK, hA, hl0, hrm, hDD, hcl2, hfit⟩ := C
  obtain ⟨⟨p, l2, e, R⟩, ⟨s, m, args, below⟩, ⟨meth, c, Q⟩, ⟨D2, cl2, A⟩, nL, cells, slots⟩ := X
  dsimp only [fx_up] at hx hb hml hown hts hK hA hl0 hrm hDD hcl2 hfit hP hD hS hl hcells hslots kk ⊢
  subst hl0 hrm hDD hcl2
  refine va_new (ci := ci) (fs := fs) (C := Cn) (T := T) (N := N) hx hb hts hin ty hty hown (hts _ hcl) (hts _ hinst) (hts _ hini) hK hP hD hS hA hc hfs hcells hslots hd (fun q H1 p1 d1 s1 => ?_)
  exact kk q ⟨hx, hb, hml, hown, hts, hK, hA, rfl, rfl, rfl, rfl, hcells, hslots⟩ H1 locs ls p1 d1 s1 hl
theorem jr_ctor {S : Type} {w0 : va_W} {w : S → va_W} {ty2 : S → List (ClassId × FieldType)} {y : MethodName} {bytes : ByteArray} {maxL index mc ms a : Nat} {ts2 : List Cond} {rm2 : Room} {post : S → Prop} {wr : va_W} (C : fx_C X l rm D cl tys cc Ts own) (hM : fx_MN l D cl w0 w ty2 y (Cond.code y bytes maxL none :: ts2) rm2 [.ref a] post mc ms) (hG : GoodIn Ts (Cond.code y bytes maxL none :: ts2)) (hini : Cond.initialized y.cls ∈ Ts) (hlink : Cond.methodLink own index y ∈ Ts) (hinm : Cond.instanceMethod y ∈ Ts) (hyn : y.name = "<init>") (hdy : y.cls ≠ "java/lang/invoke/MethodHandle" ∧ y.cls ≠ "java/lang/invoke/VarHandle" ∧ (parseMethodDescriptor y.desc).map (fun d => d.parameters.length) = some 0) (hz : rm2.cells = mc ∧ rm2.slots = ms) (hR : rm2.frames + 1 ≤ rm.frames ∧ 8 + (maxL + 11) + rm2.locals ≤ rm.locals) (hrest : (st.map fun v => v.category).sum ≤ 8)
    (isC isR : List Nat) (hC : isC.map (fun i => ws[i]?) = w0.map some) (hCf : isC.filterMap (fun i => ws[i]?) = w0) (hCn : va_nd isC = true) (hRr : isR.map (fun i => ws[i]?) = wr.map some) (hRn : va_nd isR = true) (hdis : ∀ i ∈ isR, i ∉ isC) (hcells : X.2.2.2.2.2.1 + mc ≤ rm.cells) (hslots : X.2.2.2.2.2.2 + ms ≤ rm.slots) (hd : decode cc pc = .ok (.invokespecial index, 3))
    (kk : ∀ u : S, post u → fx_C (fx_up X mc ms) l rm D cl (tys ++ ty2 u) cc Ts own → fx_J (fx_up X mc ms) (wr ++ w u) (pc + 3) pl st) : fx_J X ws pc pl (.ref a :: st) := by
  intro H locs ls hP hD hS hl
  obtain ⟨hx, hb, hml, hown, hts, hK, hA, hl0, hrm, hDD, hcl2, hfit⟩ := C
  obtain ⟨⟨p, l2, e, R⟩, ⟨s, m, args, below⟩, ⟨meth, c, Q⟩, ⟨D2, cl2, A⟩, nL, cells, slots⟩ := X
  dsimp only [fx_up] at hx hb hml hown hts hK hA hl0 hrm hDD hcl2 hfit hP hD hS hl hcells hslots kk ⊢
  subst hl0 hrm hDD hcl2
  have hPc := hP.sub (ws' := w0) isC hCf
  have hDc := hD.sub (ws' := w0) isC hCn hC
  have hFc := va_free (wc := w0) hD hS hA isC hC
  refine va_callv (va_runI (As := []) (rest := st) ⟨hx, hb, hml, hown, hts⟩ (hM H.size) (cwI 0 hts hG rfl hz.1 hz.2 (hts _ hini) (hts _ hlink) (hts _ hinm) hyn hdy hR) ⟨fx_blind, fun U hU hW => ⟨rfl, by rw [hU], by rw [hU]; exact hPc, va_K.moved hW.alike (hK.sub (tys' := []) [] rfl), hDc.weaken (fun _ _ _ _ => trivial)⟩⟩ rfl rfl hl.2.1 rfl (lv_room hrest) hd ⟨hcells, hslots⟩) hS (fun q _ h => hFc q h) hFc (fun u t H1 locs1 ht hvm hw hB hz1 hk1 hS1 => ?_)
  obtain ⟨hP1, hK1, hD1⟩ := hB
  rw [ht] at hP1
  obtain ⟨hP2, hD2⟩ := va_join (wr := wr) (w1 := w u) hP hD isC isR hC hRr hRn hdis hk1 hFc hP1 hD1
  exact kk u hw ⟨hx, hb, hml, hown, hts, hK.app (va_K.moved hvm.symm hK1), hA, rfl, rfl, rfl, rfl, hcells, hslots⟩ H1 locs1 ls hP2 hD2 hS1 hl
theorem jr_fci {S : Type} {w W0 : S → va_W} {wr : va_W} {ty2 : List (ClassId × FieldType)} {y : MethodName} {bytes : ByteArray} {maxL index n b q0 ci N : Nat} {ret : Option FieldType} {ts2 : List Cond} {rm2 : Room} {As rest : List Value} {σ : S} {post : Int32 → S → Prop} {Cn : String} {T : u_T} {fs : List Value} (C : fx_C X l rm D cl tys cc Ts own) (hM : fx_MI l D cl ty2 w y (Cond.code y bytes maxL ret :: ts2) rm2 (.ref b :: As) σ post) (hG : GoodIn Ts (wsV own index y.cls y (Cond.code y bytes maxL ret :: ts2))) (hdy : y.cls = Cn ∧ y.cls ≠ "java/lang/invoke/MethodHandle" ∧ y.cls ≠ "java/lang/invoke/VarHandle" ∧ (parseMethodDescriptor y.desc).map (fun d => d.parameters.length) = some n) (hcl : cl[ci]? = some (Cn, T, N)) (he : (w σ)[q0]? = some (b, .inr (ci, fs))) (hn : As.length = n) (hz : rm2.cells = 0 ∧ rm2.slots = 0) (hR : rm2.frames + 1 ≤ rm.frames ∧ 8 + (maxL + 11) + rm2.locals ≤ rm.locals) (hrest : (rest.map fun v => v.category).sum ≤ 8) (hst : st = As.reverse ++ .ref b :: rest)
    (it : List Nat) (hit : it.filterMap (fun i => tys[i]?) = ty2) (isC isR isB : List Nat) (hC : isC.map (fun i => (W0 σ)[i]?) = (w σ).map some) (hCf : isC.filterMap (fun i => (W0 σ)[i]?) = w σ) (hCn : va_nd isC = true) (hRr : isR.map (fun i => (W0 σ)[i]?) = wr.map some) (hRn : va_nd isR = true) (hdis : ∀ i ∈ isR, i ∉ isC) (hBn : va_nd isB = true) (hB : ∀ u, isB.map (fun i => (wr ++ w u)[i]?) = (W0 u).map some) (hBf : ∀ u, isB.filterMap (fun i => (wr ++ w u)[i]?) = W0 u) (hd : decode cc pc = .ok (.invokevirtual index, 3))
    (kk : ∀ (r : Int32) (u : S), post r u → fx_J X (W0 u) (pc + 3) pl (.int r :: rest)) : fx_J X (W0 σ) pc pl st := by
  intro H locs ls hP hD hS hl
  obtain ⟨hx, hb, hml, hown, hts, hK, hA, hl0, hrm, hDD, hcl2, hfit⟩ := C
  obtain ⟨⟨p, l2, e, R⟩, ⟨s, m, args, below⟩, ⟨meth, c, Q⟩, ⟨D2, cl2, A⟩, nL, cells, slots⟩ := X
  dsimp only at hx hb hml hown hts hK hA hl0 hrm hDD hcl2 hfit hP hD hS hl kk ⊢
  subst hl0 hrm hDD hcl2
  have hPc := hP.sub (ws' := w σ) isC hCf
  have hDc := hD.sub (ws' := w σ) isC hCn hC
  have hKc := hK.sub (tys' := ty2) it hit
  have hFc := va_free (wc := w σ) hD hS hA isC hC
  refine va_calli (va_runV (As := As) (rest := rest) ⟨hx, hb, hml, hown, hts⟩ (hM H.size) (cwV n hts (by rw [← hdy.1]; exact hG) rfl hz.1 hz.2 hdy hR) ⟨fx_blind, va_recv hKc hPc hcl he, fun U hU hW => ⟨rfl, by rw [hU], by rw [hU]; exact hPc, va_K.moved hW.alike hKc, hDc.weaken (fun _ _ _ _ => trivial)⟩⟩ rfl hn hl.2.1 hst (lv_room hrest) hd hfit) hS (fun q _ h => hFc q h) hFc (fun r u t H1 locs1 ht hvm hw hB2 hz1 hk1 hS1 => ?_)
  obtain ⟨hP1, hK1, hD1⟩ := hB2
  rw [ht] at hP1
  obtain ⟨hP2, hD2⟩ := va_join (wr := wr) (w1 := w u) hP hD isC isR hC hRr hRn hdis hk1 hFc hP1 hD1
  exact kk r u hw H1 locs1 ls (hP2.sub isB (hBf u)) (hD2.sub isB hBn (hB u)) hS1 hl
theorem jr_fcl {S : Type} {w W0 : S → va_W} {wr : va_W} {ty2 : List (ClassId × FieldType)} {y : MethodName} {bytes : ByteArray} {maxL index n b q0 ci N : Nat} {ret : Option FieldType} {ts2 : List Cond} {rm2 : Room} {As rest : List Value} {σ : S} {post : Int64 → S → Prop} {Cn : String} {T : u_T} {fs : List Value} (C : fx_C X l rm D cl tys cc Ts own) (hM : fx_ML l D cl ty2 w y (Cond.code y bytes maxL ret :: ts2) rm2 (.ref b :: As) σ post) (hG : GoodIn Ts (wsV own index y.cls y (Cond.code y bytes maxL ret :: ts2))) (hdy : y.cls = Cn ∧ y.cls ≠ "java/lang/invoke/MethodHandle" ∧ y.cls ≠ "java/lang/invoke/VarHandle" ∧ (parseMethodDescriptor y.desc).map (fun d => d.parameters.length) = some n) (hcl : cl[ci]? = some (Cn, T, N)) (he : (w σ)[q0]? = some (b, .inr (ci, fs))) (hn : As.length = n) (hz : rm2.cells = 0 ∧ rm2.slots = 0) (hR : rm2.frames + 1 ≤ rm.frames ∧ 8 + (maxL + 11) + rm2.locals ≤ rm.locals) (hrest : (rest.map fun v => v.category).sum ≤ 8) (hst : st = As.reverse ++ .ref b :: rest)
    (it : List Nat) (hit : it.filterMap (fun i => tys[i]?) = ty2) (isC isR isB : List Nat) (hC : isC.map (fun i => (W0 σ)[i]?) = (w σ).map some) (hCf : isC.filterMap (fun i => (W0 σ)[i]?) = w σ) (hCn : va_nd isC = true) (hRr : isR.map (fun i => (W0 σ)[i]?) = wr.map some) (hRn : va_nd isR = true) (hdis : ∀ i ∈ isR, i ∉ isC) (hBn : va_nd isB = true) (hB : ∀ u, isB.map (fun i => (wr ++ w u)[i]?) = (W0 u).map some) (hBf : ∀ u, isB.filterMap (fun i => (wr ++ w u)[i]?) = W0 u) (hd : decode cc pc = .ok (.invokevirtual index, 3))
    (kk : ∀ (r : Int64) (u : S), post r u → fx_J X (W0 u) (pc + 3) pl (.long r :: rest)) : fx_J X (W0 σ) pc pl st := by
  intro H locs ls hP hD hS hl
  obtain ⟨hx, hb, hml, hown, hts, hK, hA, hl0, hrm, hDD, hcl2, hfit⟩ := C
  obtain ⟨⟨p, l2, e, R⟩, ⟨s, m, args, below⟩, ⟨meth, c, Q⟩, ⟨D2, cl2, A⟩, nL, cells, slots⟩ := X
  dsimp only at hx hb hml hown hts hK hA hl0 hrm hDD hcl2 hfit hP hD hS hl kk ⊢
  subst hl0 hrm hDD hcl2
  have hPc := hP.sub (ws' := w σ) isC hCf
  have hDc := hD.sub (ws' := w σ) isC hCn hC
  have hKc := hK.sub (tys' := ty2) it hit
  have hFc := va_free (wc := w σ) hD hS hA isC hC
  refine va_calll (va_runV (As := As) (rest := rest) ⟨hx, hb, hml, hown, hts⟩ (hM H.size) (cwV n hts (by rw [← hdy.1]; exact hG) rfl hz.1 hz.2 hdy hR) ⟨fx_blind, va_recv hKc hPc hcl he, fun U hU hW => ⟨rfl, by rw [hU], by rw [hU]; exact hPc, va_K.moved hW.alike hKc, hDc.weaken (fun _ _ _ _ => trivial)⟩⟩ rfl hn hl.2.1 hst (lv_room hrest) hd hfit) hS (fun q _ h => hFc q h) hFc (fun r u t H1 locs1 ht hvm hw hB2 hz1 hk1 hS1 => ?_)
  obtain ⟨hP1, hK1, hD1⟩ := hB2
  rw [ht] at hP1
  obtain ⟨hP2, hD2⟩ := va_join (wr := wr) (w1 := w u) hP hD isC isR hC hRr hRn hdis hk1 hFc hP1 hD1
  exact kk r u hw H1 locs1 ls (hP2.sub isB (hBf u)) (hD2.sub isB hBn (hB u)) hS1 hl
end LW
end
section
def w_L (q : Nat → Nat) (k : Nat → ClassId) (q2 : Nat → Nat) (k2 : Nat → ClassId) (qo : Nat) (co : ClassId) (u : sx_T × sm_T × (Nat → Int64)) : va_W := (w_X q k u.1 ++ w_M q2 k2 u.2.1) ++ [(qo, .inl (co, 1, .inr (.inl u.2.2)))]
abbrev ty_L (k k2 : Nat → ClassId) (co : ClassId) : List (ClassId × FieldType) := [(k 1, .long), (k 2, .long), (k 3, .int), (k 4, .boolean), (k 5, .int), (k2 1, .int), (k2 2, .int), (k2 3, .boolean), (k2 4, .boolean), (k2 5, .int), (k2 6, .int), (k2 7, .boolean), (k2 8, .boolean), (k2 9, .boolean), (co, .long)]
theorem st_L_share : Cond.static y_L_share ∈ tb_l := in_tb 190 (by decide +kernel) (by decide +kernel)
section LC
variable {X : fx_M} {l : Launch} {rm : Room} {D : va_G} {cc : ByteArray} {c0 : Cond} {pc : Nat} {pl : List (Option Value)} {rest : List Value} {q q2 : Nat → Nat} {k k2 : Nat → ClassId} {qo : Nat} {co : ClassId} {σ : sx_T} {τ : sm_T} {f : Nat → Int64}
theorem jL_X_record  {post : Int32 → sx_T → Prop} (C : fx_C X l rm D cl_s (ty_L k k2 co) cc (c0 :: tb_l) R_L) (hM : fx_MI l D cl_s (ty_X k) (w_X q k) y_X_record (k_X_record :: tb_l) rm_X_record (.ref (q 0) :: []) σ post) (hR : rm_X_record.frames + 1 ≤ rm.frames ∧ 8 + (1 + 11) + rm_X_record.locals ≤ rm.locals) (hrest : (rest.map fun v => v.category).sum ≤ 8) (hd : decode cc pc = .ok (.invokevirtual 19, 3)) (kk : ∀ (r : Int32) (u : sx_T), post r u → fx_J X (w_L q k q2 k2 qo co (u, τ, f)) (pc + 3) pl (.int r :: rest)) : fx_J X (w_L q k q2 k2 qo co (σ, τ, f)) pc pl (.ref (q 0) :: rest) :=
  jr_fci (W0 := (fun u => w_L q k q2 k2 qo co (u, τ, f))) (wr := (w_M q2 k2 τ ++ [(qo, .inl (co, 1, .inr (.inl f)))])) (As := []) (rest := rest) (n := 0) (ci := 0) (q0 := 0) C hM (gd_V ci_X_record ml_L_X_record im_X_record se_X_record ii_X) (by decide +kernel) rfl rfl rfl ⟨rfl, rfl⟩ hR hrest rfl [0, 1, 2, 3, 4] rfl [0, 1, 2, 3, 4, 5] [6, 7, 8, 9, 10, 11, 12, 13, 14, 15, 16] [11, 12, 13, 14, 15, 16, 0, 1, 2, 3, 4, 5, 6, 7, 8, 9, 10] rfl rfl (by decide) rfl (by decide) (by decide) (by decide) (fun _ => rfl) (fun _ => rfl) hd kk
theorem jL_X_value {a0 : Int32} {a1 : Int32} {a2 : Int32} {post : Int32 → sx_T → Prop} (C : fx_C X l rm D cl_s (ty_L k k2 co) cc (c0 :: tb_l) R_L) (hM : fx_MI l D cl_s (ty_X k) (w_X q k) y_X_value (k_X_value :: tb_l) rm_X_value (.ref (q 0) :: [.int a0, .int a1, .int a2]) σ post) (hR : rm_X_value.frames + 1 ≤ rm.frames ∧ 8 + (4 + 11) + rm_X_value.locals ≤ rm.locals) (hrest : (rest.map fun v => v.category).sum ≤ 8) (hd : decode cc pc = .ok (.invokevirtual 24, 3)) (kk : ∀ (r : Int32) (u : sx_T), post r u → fx_J X (w_L q k q2 k2 qo co (u, τ, f)) (pc + 3) pl (.int r :: rest)) : fx_J X (w_L q k q2 k2 qo co (σ, τ, f)) pc pl (.int a2 :: .int a1 :: .int a0 :: .ref (q 0) :: rest) :=
  jr_fci (W0 := (fun u => w_L q k q2 k2 qo co (u, τ, f))) (wr := (w_M q2 k2 τ ++ [(qo, .inl (co, 1, .inr (.inl f)))])) (As := [.int a0, .int a1, .int a2]) (rest := rest) (n := 3) (ci := 0) (q0 := 0) C hM (gd_V ci_X_value ml_L_X_value im_X_value se_X_value ii_X) (by decide +kernel) rfl rfl rfl ⟨rfl, rfl⟩ hR hrest rfl [0, 1, 2, 3, 4] rfl [0, 1, 2, 3, 4, 5] [6, 7, 8, 9, 10, 11, 12, 13, 14, 15, 16] [11, 12, 13, 14, 15, 16, 0, 1, 2, 3, 4, 5, 6, 7, 8, 9, 10] rfl rfl (by decide) rfl (by decide) (by decide) (by decide) (fun _ => rfl) (fun _ => rfl) hd kk
theorem jL_X_gone {a0 : Int32} {a1 : Int32} {a2 : Int32} {post : Int32 → sx_T → Prop} (C : fx_C X l rm D cl_s (ty_L k k2 co) cc (c0 :: tb_l) R_L) (hM : fx_MI l D cl_s (ty_X k) (w_X q k) y_X_gone (k_X_gone :: tb_l) rm_X_gone (.ref (q 0) :: [.int a0, .int a1, .int a2]) σ post) (hR : rm_X_gone.frames + 1 ≤ rm.frames ∧ 8 + (4 + 11) + rm_X_gone.locals ≤ rm.locals) (hrest : (rest.map fun v => v.category).sum ≤ 8) (hd : decode cc pc = .ok (.invokevirtual 29, 3)) (kk : ∀ (r : Int32) (u : sx_T), post r u → fx_J X (w_L q k q2 k2 qo co (u, τ, f)) (pc + 3) pl (.int r :: rest)) : fx_J X (w_L q k q2 k2 qo co (σ, τ, f)) pc pl (.int a2 :: .int a1 :: .int a0 :: .ref (q 0) :: rest) :=
  jr_fci (W0 := (fun u => w_L q k q2 k2 qo co (u, τ, f))) (wr := (w_M q2 k2 τ ++ [(qo, .inl (co, 1, .inr (.inl f)))])) (As := [.int a0, .int a1, .int a2]) (rest := rest) (n := 3) (ci := 0) (q0 := 0) C hM (gd_V ci_X_gone ml_L_X_gone im_X_gone se_X_gone ii_X) (by decide +kernel) rfl rfl rfl ⟨rfl, rfl⟩ hR hrest rfl [0, 1, 2, 3, 4] rfl [0, 1, 2, 3, 4, 5] [6, 7, 8, 9, 10, 11, 12, 13, 14, 15, 16] [11, 12, 13, 14, 15, 16, 0, 1, 2, 3, 4, 5, 6, 7, 8, 9, 10] rfl rfl (by decide) rfl (by decide) (by decide) (by decide) (fun _ => rfl) (fun _ => rfl) hd kk
theorem jL_X_narrower {a0 : Int32} {a1 : Int32} {a2 : Int32} {post : Int32 → sx_T → Prop} (C : fx_C X l rm D cl_s (ty_L k k2 co) cc (c0 :: tb_l) R_L) (hM : fx_MI l D cl_s (ty_X k) (w_X q k) y_X_narrower (k_X_narrower :: tb_l) rm_X_narrower (.ref (q 0) :: [.int a0, .int a1, .int a2]) σ post) (hR : rm_X_narrower.frames + 1 ≤ rm.frames ∧ 8 + (4 + 11) + rm_X_narrower.locals ≤ rm.locals) (hrest : (rest.map fun v => v.category).sum ≤ 8) (hd : decode cc pc = .ok (.invokevirtual 34, 3)) (kk : ∀ (r : Int32) (u : sx_T), post r u → fx_J X (w_L q k q2 k2 qo co (u, τ, f)) (pc + 3) pl (.int r :: rest)) : fx_J X (w_L q k q2 k2 qo co (σ, τ, f)) pc pl (.int a2 :: .int a1 :: .int a0 :: .ref (q 0) :: rest) :=
  jr_fci (W0 := (fun u => w_L q k q2 k2 qo co (u, τ, f))) (wr := (w_M q2 k2 τ ++ [(qo, .inl (co, 1, .inr (.inl f)))])) (As := [.int a0, .int a1, .int a2]) (rest := rest) (n := 3) (ci := 0) (q0 := 0) C hM (gd_V ci_X_narrower ml_L_X_narrower im_X_narrower se_X_narrower ii_X) (by decide +kernel) rfl rfl rfl ⟨rfl, rfl⟩ hR hrest rfl [0, 1, 2, 3, 4] rfl [0, 1, 2, 3, 4, 5] [6, 7, 8, 9, 10, 11, 12, 13, 14, 15, 16] [11, 12, 13, 14, 15, 16, 0, 1, 2, 3, 4, 5, 6, 7, 8, 9, 10] rfl rfl (by decide) rfl (by decide) (by decide) (by decide) (fun _ => rfl) (fun _ => rfl) hd kk
theorem jL_X_hit {a0 : Int32} {a1 : Int32} {post : Int32 → sx_T → Prop} (C : fx_C X l rm D cl_s (ty_L k k2 co) cc (c0 :: tb_l) R_L) (hM : fx_MI l D cl_s (ty_X k) (w_X q k) y_X_hit (k_X_hit :: tb_l) rm_X_hit (.ref (q 0) :: [.int a0, .int a1]) σ post) (hR : rm_X_hit.frames + 1 ≤ rm.frames ∧ 8 + (3 + 11) + rm_X_hit.locals ≤ rm.locals) (hrest : (rest.map fun v => v.category).sum ≤ 8) (hd : decode cc pc = .ok (.invokevirtual 38, 3)) (kk : ∀ (r : Int32) (u : sx_T), post r u → fx_J X (w_L q k q2 k2 qo co (u, τ, f)) (pc + 3) pl (.int r :: rest)) : fx_J X (w_L q k q2 k2 qo co (σ, τ, f)) pc pl (.int a1 :: .int a0 :: .ref (q 0) :: rest) :=
  jr_fci (W0 := (fun u => w_L q k q2 k2 qo co (u, τ, f))) (wr := (w_M q2 k2 τ ++ [(qo, .inl (co, 1, .inr (.inl f)))])) (As := [.int a0, .int a1]) (rest := rest) (n := 2) (ci := 0) (q0 := 0) C hM (gd_V ci_X_hit ml_L_X_hit im_X_hit se_X_hit ii_X) (by decide +kernel) rfl rfl rfl ⟨rfl, rfl⟩ hR hrest rfl [0, 1, 2, 3, 4] rfl [0, 1, 2, 3, 4, 5] [6, 7, 8, 9, 10, 11, 12, 13, 14, 15, 16] [11, 12, 13, 14, 15, 16, 0, 1, 2, 3, 4, 5, 6, 7, 8, 9, 10] rfl rfl (by decide) rfl (by decide) (by decide) (by decide) (fun _ => rfl) (fun _ => rfl) hd kk
theorem jL_X_choose {a0 : Int32} {a1 : Int32} {post : Int32 → sx_T → Prop} (C : fx_C X l rm D cl_s (ty_L k k2 co) cc (c0 :: tb_l) R_L) (hM : fx_MI l D cl_s (ty_X k) (w_X q k) y_X_choose (k_X_choose :: tb_l) rm_X_choose (.ref (q 0) :: [.int a0, .int a1]) σ post) (hR : rm_X_choose.frames + 1 ≤ rm.frames ∧ 8 + (3 + 11) + rm_X_choose.locals ≤ rm.locals) (hrest : (rest.map fun v => v.category).sum ≤ 8) (hd : decode cc pc = .ok (.invokevirtual 43, 3)) (kk : ∀ (r : Int32) (u : sx_T), post r u → fx_J X (w_L q k q2 k2 qo co (u, τ, f)) (pc + 3) pl (.int r :: rest)) : fx_J X (w_L q k q2 k2 qo co (σ, τ, f)) pc pl (.int a1 :: .int a0 :: .ref (q 0) :: rest) :=
  jr_fci (W0 := (fun u => w_L q k q2 k2 qo co (u, τ, f))) (wr := (w_M q2 k2 τ ++ [(qo, .inl (co, 1, .inr (.inl f)))])) (As := [.int a0, .int a1]) (rest := rest) (n := 2) (ci := 0) (q0 := 0) C hM (gd_V ci_X_choose ml_L_X_choose im_X_choose se_X_choose ii_X) (by decide +kernel) rfl rfl rfl ⟨rfl, rfl⟩ hR hrest rfl [0, 1, 2, 3, 4] rfl [0, 1, 2, 3, 4, 5] [6, 7, 8, 9, 10, 11, 12, 13, 14, 15, 16] [11, 12, 13, 14, 15, 16, 0, 1, 2, 3, 4, 5, 6, 7, 8, 9, 10] rfl rfl (by decide) rfl (by decide) (by decide) (by decide) (fun _ => rfl) (fun _ => rfl) hd kk
theorem jL_X_count {a0 : Int32} {a1 : Int32} {post : Int32 → sx_T → Prop} (C : fx_C X l rm D cl_s (ty_L k k2 co) cc (c0 :: tb_l) R_L) (hM : fx_MI l D cl_s (ty_X k) (w_X q k) y_X_count (k_X_count :: tb_l) rm_X_count (.ref (q 0) :: [.int a0, .int a1]) σ post) (hR : rm_X_count.frames + 1 ≤ rm.frames ∧ 8 + (3 + 11) + rm_X_count.locals ≤ rm.locals) (hrest : (rest.map fun v => v.category).sum ≤ 8) (hd : decode cc pc = .ok (.invokevirtual 48, 3)) (kk : ∀ (r : Int32) (u : sx_T), post r u → fx_J X (w_L q k q2 k2 qo co (u, τ, f)) (pc + 3) pl (.int r :: rest)) : fx_J X (w_L q k q2 k2 qo co (σ, τ, f)) pc pl (.int a1 :: .int a0 :: .ref (q 0) :: rest) :=
  jr_fci (W0 := (fun u => w_L q k q2 k2 qo co (u, τ, f))) (wr := (w_M q2 k2 τ ++ [(qo, .inl (co, 1, .inr (.inl f)))])) (As := [.int a0, .int a1]) (rest := rest) (n := 2) (ci := 0) (q0 := 0) C hM (gd_V ci_X_count ml_L_X_count im_X_count se_X_count ii_X) (by decide +kernel) rfl rfl rfl ⟨rfl, rfl⟩ hR hrest rfl [0, 1, 2, 3, 4] rfl [0, 1, 2, 3, 4, 5] [6, 7, 8, 9, 10, 11, 12, 13, 14, 15, 16] [11, 12, 13, 14, 15, 16, 0, 1, 2, 3, 4, 5, 6, 7, 8, 9, 10] rfl rfl (by decide) rfl (by decide) (by decide) (by decide) (fun _ => rfl) (fun _ => rfl) hd kk
theorem jL_X_top {a0 : Int32} {a1 : Int32} {post : Int32 → sx_T → Prop} (C : fx_C X l rm D cl_s (ty_L k k2 co) cc (c0 :: tb_l) R_L) (hM : fx_MI l D cl_s (ty_X k) (w_X q k) y_X_top (k_X_top :: tb_l) rm_X_top (.ref (q 0) :: [.int a0, .int a1]) σ post) (hR : rm_X_top.frames + 1 ≤ rm.frames ∧ 8 + (3 + 11) + rm_X_top.locals ≤ rm.locals) (hrest : (rest.map fun v => v.category).sum ≤ 8) (hd : decode cc pc = .ok (.invokevirtual 52, 3)) (kk : ∀ (r : Int32) (u : sx_T), post r u → fx_J X (w_L q k q2 k2 qo co (u, τ, f)) (pc + 3) pl (.int r :: rest)) : fx_J X (w_L q k q2 k2 qo co (σ, τ, f)) pc pl (.int a1 :: .int a0 :: .ref (q 0) :: rest) :=
  jr_fci (W0 := (fun u => w_L q k q2 k2 qo co (u, τ, f))) (wr := (w_M q2 k2 τ ++ [(qo, .inl (co, 1, .inr (.inl f)))])) (As := [.int a0, .int a1]) (rest := rest) (n := 2) (ci := 0) (q0 := 0) C hM (gd_V ci_X_top ml_L_X_top im_X_top se_X_top ii_X) (by decide +kernel) rfl rfl rfl ⟨rfl, rfl⟩ hR hrest rfl [0, 1, 2, 3, 4] rfl [0, 1, 2, 3, 4, 5] [6, 7, 8, 9, 10, 11, 12, 13, 14, 15, 16] [11, 12, 13, 14, 15, 16, 0, 1, 2, 3, 4, 5, 6, 7, 8, 9, 10] rfl rfl (by decide) rfl (by decide) (by decide) (by decide) (fun _ => rfl) (fun _ => rfl) hd kk
theorem jL_X_below {a0 : Int32} {a1 : Int32} {a2 : Int32} {a3 : Int32} {post : Int32 → sx_T → Prop} (C : fx_C X l rm D cl_s (ty_L k k2 co) cc (c0 :: tb_l) R_L) (hM : fx_MI l D cl_s (ty_X k) (w_X q k) y_X_below (k_X_below :: tb_l) rm_X_below (.ref (q 0) :: [.int a0, .int a1, .int a2, .int a3]) σ post) (hR : rm_X_below.frames + 1 ≤ rm.frames ∧ 8 + (5 + 11) + rm_X_below.locals ≤ rm.locals) (hrest : (rest.map fun v => v.category).sum ≤ 8) (hd : decode cc pc = .ok (.invokevirtual 56, 3)) (kk : ∀ (r : Int32) (u : sx_T), post r u → fx_J X (w_L q k q2 k2 qo co (u, τ, f)) (pc + 3) pl (.int r :: rest)) : fx_J X (w_L q k q2 k2 qo co (σ, τ, f)) pc pl (.int a3 :: .int a2 :: .int a1 :: .int a0 :: .ref (q 0) :: rest) :=
  jr_fci (W0 := (fun u => w_L q k q2 k2 qo co (u, τ, f))) (wr := (w_M q2 k2 τ ++ [(qo, .inl (co, 1, .inr (.inl f)))])) (As := [.int a0, .int a1, .int a2, .int a3]) (rest := rest) (n := 4) (ci := 0) (q0 := 0) C hM (gd_V ci_X_below ml_L_X_below im_X_below se_X_below ii_X) (by decide +kernel) rfl rfl rfl ⟨rfl, rfl⟩ hR hrest rfl [0, 1, 2, 3, 4] rfl [0, 1, 2, 3, 4, 5] [6, 7, 8, 9, 10, 11, 12, 13, 14, 15, 16] [11, 12, 13, 14, 15, 16, 0, 1, 2, 3, 4, 5, 6, 7, 8, 9, 10] rfl rfl (by decide) rfl (by decide) (by decide) (by decide) (fun _ => rfl) (fun _ => rfl) hd kk
theorem jL_X_band {a0 : Int32} {a1 : Int32} {a2 : Int32} {post : Int32 → sx_T → Prop} (C : fx_C X l rm D cl_s (ty_L k k2 co) cc (c0 :: tb_l) R_L) (hM : fx_MI l D cl_s (ty_X k) (w_X q k) y_X_band (k_X_band :: tb_l) rm_X_band (.ref (q 0) :: [.int a0, .int a1, .int a2]) σ post) (hR : rm_X_band.frames + 1 ≤ rm.frames ∧ 8 + (4 + 11) + rm_X_band.locals ≤ rm.locals) (hrest : (rest.map fun v => v.category).sum ≤ 8) (hd : decode cc pc = .ok (.invokevirtual 61, 3)) (kk : ∀ (r : Int32) (u : sx_T), post r u → fx_J X (w_L q k q2 k2 qo co (u, τ, f)) (pc + 3) pl (.int r :: rest)) : fx_J X (w_L q k q2 k2 qo co (σ, τ, f)) pc pl (.int a2 :: .int a1 :: .int a0 :: .ref (q 0) :: rest) :=
  jr_fci (W0 := (fun u => w_L q k q2 k2 qo co (u, τ, f))) (wr := (w_M q2 k2 τ ++ [(qo, .inl (co, 1, .inr (.inl f)))])) (As := [.int a0, .int a1, .int a2]) (rest := rest) (n := 3) (ci := 0) (q0 := 0) C hM (gd_V ci_X_band ml_L_X_band im_X_band se_X_band ii_X) (by decide +kernel) rfl rfl rfl ⟨rfl, rfl⟩ hR hrest rfl [0, 1, 2, 3, 4] rfl [0, 1, 2, 3, 4, 5] [6, 7, 8, 9, 10, 11, 12, 13, 14, 15, 16] [11, 12, 13, 14, 15, 16, 0, 1, 2, 3, 4, 5, 6, 7, 8, 9, 10] rfl rfl (by decide) rfl (by decide) (by decide) (by decide) (fun _ => rfl) (fun _ => rfl) hd kk
theorem jL_X_missing {a0 : Int32} {post : Int32 → sx_T → Prop} (C : fx_C X l rm D cl_s (ty_L k k2 co) cc (c0 :: tb_l) R_L) (hM : fx_MI l D cl_s (ty_X k) (w_X q k) y_X_missing (k_X_missing :: tb_l) rm_X_missing (.ref (q 0) :: [.int a0]) σ post) (hR : rm_X_missing.frames + 1 ≤ rm.frames ∧ 8 + (2 + 11) + rm_X_missing.locals ≤ rm.locals) (hrest : (rest.map fun v => v.category).sum ≤ 8) (hd : decode cc pc = .ok (.invokevirtual 74, 3)) (kk : ∀ (r : Int32) (u : sx_T), post r u → fx_J X (w_L q k q2 k2 qo co (u, τ, f)) (pc + 3) pl (.int r :: rest)) : fx_J X (w_L q k q2 k2 qo co (σ, τ, f)) pc pl (.int a0 :: .ref (q 0) :: rest) :=
  jr_fci (W0 := (fun u => w_L q k q2 k2 qo co (u, τ, f))) (wr := (w_M q2 k2 τ ++ [(qo, .inl (co, 1, .inr (.inl f)))])) (As := [.int a0]) (rest := rest) (n := 1) (ci := 0) (q0 := 0) C hM (gd_V ci_X_missing ml_L_X_missing im_X_missing se_X_missing ii_X) (by decide +kernel) rfl rfl rfl ⟨rfl, rfl⟩ hR hrest rfl [0, 1, 2, 3, 4] rfl [0, 1, 2, 3, 4, 5] [6, 7, 8, 9, 10, 11, 12, 13, 14, 15, 16] [11, 12, 13, 14, 15, 16, 0, 1, 2, 3, 4, 5, 6, 7, 8, 9, 10] rfl rfl (by decide) rfl (by decide) (by decide) (by decide) (fun _ => rfl) (fun _ => rfl) hd kk
theorem jL_X_left {a0 : Int32} {post : Int32 → sx_T → Prop} (C : fx_C X l rm D cl_s (ty_L k k2 co) cc (c0 :: tb_l) R_L) (hM : fx_MI l D cl_s (ty_X k) (w_X q k) y_X_left (k_X_left :: tb_l) rm_X_left (.ref (q 0) :: [.int a0]) σ post) (hR : rm_X_left.frames + 1 ≤ rm.frames ∧ 8 + (6 + 11) + rm_X_left.locals ≤ rm.locals) (hrest : (rest.map fun v => v.category).sum ≤ 8) (hd : decode cc pc = .ok (.invokevirtual 79, 3)) (kk : ∀ (r : Int32) (u : sx_T), post r u → fx_J X (w_L q k q2 k2 qo co (u, τ, f)) (pc + 3) pl (.int r :: rest)) : fx_J X (w_L q k q2 k2 qo co (σ, τ, f)) pc pl (.int a0 :: .ref (q 0) :: rest) :=
  jr_fci (W0 := (fun u => w_L q k q2 k2 qo co (u, τ, f))) (wr := (w_M q2 k2 τ ++ [(qo, .inl (co, 1, .inr (.inl f)))])) (As := [.int a0]) (rest := rest) (n := 1) (ci := 0) (q0 := 0) C hM (gd_V ci_X_left ml_L_X_left im_X_left se_X_left ii_X) (by decide +kernel) rfl rfl rfl ⟨rfl, rfl⟩ hR hrest rfl [0, 1, 2, 3, 4] rfl [0, 1, 2, 3, 4, 5] [6, 7, 8, 9, 10, 11, 12, 13, 14, 15, 16] [11, 12, 13, 14, 15, 16, 0, 1, 2, 3, 4, 5, 6, 7, 8, 9, 10] rfl rfl (by decide) rfl (by decide) (by decide) (by decide) (fun _ => rfl) (fun _ => rfl) hd kk
theorem jL_M_record  {post : Int32 → sm_T → Prop} (C : fx_C X l rm D cl_s (ty_L k k2 co) cc (c0 :: tb_l) R_L) (hM : fx_MI l D cl_s (ty_M k2) (w_M q2 k2) y_M_record (k_M_record :: tb_l) rm_M_record (.ref (q2 0) :: []) τ post) (hR : rm_M_record.frames + 1 ≤ rm.frames ∧ 8 + (1 + 11) + rm_M_record.locals ≤ rm.locals) (hrest : (rest.map fun v => v.category).sum ≤ 8) (hd : decode cc pc = .ok (.invokevirtual 23, 3)) (kk : ∀ (r : Int32) (u : sm_T), post r u → fx_J X (w_L q k q2 k2 qo co (σ, u, f)) (pc + 3) pl (.int r :: rest)) : fx_J X (w_L q k q2 k2 qo co (σ, τ, f)) pc pl (.ref (q2 0) :: rest) :=
  jr_fci (W0 := (fun u => w_L q k q2 k2 qo co (σ, u, f))) (wr := (w_X q k σ ++ [(qo, .inl (co, 1, .inr (.inl f)))])) (As := []) (rest := rest) (n := 0) (ci := 1) (q0 := 0) C hM (gd_V ci_M_record ml_L_M_record im_M_record se_M_record ii_M) (by decide +kernel) rfl rfl rfl ⟨rfl, rfl⟩ hR hrest rfl [5, 6, 7, 8, 9, 10, 11, 12, 13] rfl [6, 7, 8, 9, 10, 11, 12, 13, 14, 15] [0, 1, 2, 3, 4, 5, 16] [0, 1, 2, 3, 4, 5, 7, 8, 9, 10, 11, 12, 13, 14, 15, 16, 6] rfl rfl (by decide) rfl (by decide) (by decide) (by decide) (fun _ => rfl) (fun _ => rfl) hd kk
theorem jL_M_value {a0 : Int32} {a1 : Int32} {a2 : Int32} {post : Int32 → sm_T → Prop} (C : fx_C X l rm D cl_s (ty_L k k2 co) cc (c0 :: tb_l) R_L) (hM : fx_MI l D cl_s (ty_M k2) (w_M q2 k2) y_M_value (k_M_value :: tb_l) rm_M_value (.ref (q2 0) :: [.int a0, .int a1, .int a2]) τ post) (hR : rm_M_value.frames + 1 ≤ rm.frames ∧ 8 + (6 + 11) + rm_M_value.locals ≤ rm.locals) (hrest : (rest.map fun v => v.category).sum ≤ 8) (hd : decode cc pc = .ok (.invokevirtual 28, 3)) (kk : ∀ (r : Int32) (u : sm_T), post r u → fx_J X (w_L q k q2 k2 qo co (σ, u, f)) (pc + 3) pl (.int r :: rest)) : fx_J X (w_L q k q2 k2 qo co (σ, τ, f)) pc pl (.int a2 :: .int a1 :: .int a0 :: .ref (q2 0) :: rest) :=
  jr_fci (W0 := (fun u => w_L q k q2 k2 qo co (σ, u, f))) (wr := (w_X q k σ ++ [(qo, .inl (co, 1, .inr (.inl f)))])) (As := [.int a0, .int a1, .int a2]) (rest := rest) (n := 3) (ci := 1) (q0 := 0) C hM (gd_V ci_M_value ml_L_M_value im_M_value se_M_value ii_M) (by decide +kernel) rfl rfl rfl ⟨rfl, rfl⟩ hR hrest rfl [5, 6, 7, 8, 9, 10, 11, 12, 13] rfl [6, 7, 8, 9, 10, 11, 12, 13, 14, 15] [0, 1, 2, 3, 4, 5, 16] [0, 1, 2, 3, 4, 5, 7, 8, 9, 10, 11, 12, 13, 14, 15, 16, 6] rfl rfl (by decide) rfl (by decide) (by decide) (by decide) (fun _ => rfl) (fun _ => rfl) hd kk
theorem jL_M_gone {a0 : Int32} {a1 : Int32} {a2 : Int32} {post : Int32 → sm_T → Prop} (C : fx_C X l rm D cl_s (ty_L k k2 co) cc (c0 :: tb_l) R_L) (hM : fx_MI l D cl_s (ty_M k2) (w_M q2 k2) y_M_gone (k_M_gone :: tb_l) rm_M_gone (.ref (q2 0) :: [.int a0, .int a1, .int a2]) τ post) (hR : rm_M_gone.frames + 1 ≤ rm.frames ∧ 8 + (6 + 11) + rm_M_gone.locals ≤ rm.locals) (hrest : (rest.map fun v => v.category).sum ≤ 8) (hd : decode cc pc = .ok (.invokevirtual 33, 3)) (kk : ∀ (r : Int32) (u : sm_T), post r u → fx_J X (w_L q k q2 k2 qo co (σ, u, f)) (pc + 3) pl (.int r :: rest)) : fx_J X (w_L q k q2 k2 qo co (σ, τ, f)) pc pl (.int a2 :: .int a1 :: .int a0 :: .ref (q2 0) :: rest) :=
  jr_fci (W0 := (fun u => w_L q k q2 k2 qo co (σ, u, f))) (wr := (w_X q k σ ++ [(qo, .inl (co, 1, .inr (.inl f)))])) (As := [.int a0, .int a1, .int a2]) (rest := rest) (n := 3) (ci := 1) (q0 := 0) C hM (gd_V ci_M_gone ml_L_M_gone im_M_gone se_M_gone ii_M) (by decide +kernel) rfl rfl rfl ⟨rfl, rfl⟩ hR hrest rfl [5, 6, 7, 8, 9, 10, 11, 12, 13] rfl [6, 7, 8, 9, 10, 11, 12, 13, 14, 15] [0, 1, 2, 3, 4, 5, 16] [0, 1, 2, 3, 4, 5, 7, 8, 9, 10, 11, 12, 13, 14, 15, 16, 6] rfl rfl (by decide) rfl (by decide) (by decide) (by decide) (fun _ => rfl) (fun _ => rfl) hd kk
theorem jL_M_narrower {a0 : Int32} {a1 : Int32} {a2 : Int32} {post : Int32 → sm_T → Prop} (C : fx_C X l rm D cl_s (ty_L k k2 co) cc (c0 :: tb_l) R_L) (hM : fx_MI l D cl_s (ty_M k2) (w_M q2 k2) y_M_narrower (k_M_narrower :: tb_l) rm_M_narrower (.ref (q2 0) :: [.int a0, .int a1, .int a2]) τ post) (hR : rm_M_narrower.frames + 1 ≤ rm.frames ∧ 8 + (4 + 11) + rm_M_narrower.locals ≤ rm.locals) (hrest : (rest.map fun v => v.category).sum ≤ 8) (hd : decode cc pc = .ok (.invokevirtual 37, 3)) (kk : ∀ (r : Int32) (u : sm_T), post r u → fx_J X (w_L q k q2 k2 qo co (σ, u, f)) (pc + 3) pl (.int r :: rest)) : fx_J X (w_L q k q2 k2 qo co (σ, τ, f)) pc pl (.int a2 :: .int a1 :: .int a0 :: .ref (q2 0) :: rest) :=
  jr_fci (W0 := (fun u => w_L q k q2 k2 qo co (σ, u, f))) (wr := (w_X q k σ ++ [(qo, .inl (co, 1, .inr (.inl f)))])) (As := [.int a0, .int a1, .int a2]) (rest := rest) (n := 3) (ci := 1) (q0 := 0) C hM (gd_V ci_M_narrower ml_L_M_narrower im_M_narrower se_M_narrower ii_M) (by decide +kernel) rfl rfl rfl ⟨rfl, rfl⟩ hR hrest rfl [5, 6, 7, 8, 9, 10, 11, 12, 13] rfl [6, 7, 8, 9, 10, 11, 12, 13, 14, 15] [0, 1, 2, 3, 4, 5, 16] [0, 1, 2, 3, 4, 5, 7, 8, 9, 10, 11, 12, 13, 14, 15, 16, 6] rfl rfl (by decide) rfl (by decide) (by decide) (by decide) (fun _ => rfl) (fun _ => rfl) hd kk
theorem jL_M_hit {a0 : Int32} {a1 : Int32} {post : Int32 → sm_T → Prop} (C : fx_C X l rm D cl_s (ty_L k k2 co) cc (c0 :: tb_l) R_L) (hM : fx_MI l D cl_s (ty_M k2) (w_M q2 k2) y_M_hit (k_M_hit :: tb_l) rm_M_hit (.ref (q2 0) :: [.int a0, .int a1]) τ post) (hR : rm_M_hit.frames + 1 ≤ rm.frames ∧ 8 + (5 + 11) + rm_M_hit.locals ≤ rm.locals) (hrest : (rest.map fun v => v.category).sum ≤ 8) (hd : decode cc pc = .ok (.invokevirtual 42, 3)) (kk : ∀ (r : Int32) (u : sm_T), post r u → fx_J X (w_L q k q2 k2 qo co (σ, u, f)) (pc + 3) pl (.int r :: rest)) : fx_J X (w_L q k q2 k2 qo co (σ, τ, f)) pc pl (.int a1 :: .int a0 :: .ref (q2 0) :: rest) :=
  jr_fci (W0 := (fun u => w_L q k q2 k2 qo co (σ, u, f))) (wr := (w_X q k σ ++ [(qo, .inl (co, 1, .inr (.inl f)))])) (As := [.int a0, .int a1]) (rest := rest) (n := 2) (ci := 1) (q0 := 0) C hM (gd_V ci_M_hit ml_L_M_hit im_M_hit se_M_hit ii_M) (by decide +kernel) rfl rfl rfl ⟨rfl, rfl⟩ hR hrest rfl [5, 6, 7, 8, 9, 10, 11, 12, 13] rfl [6, 7, 8, 9, 10, 11, 12, 13, 14, 15] [0, 1, 2, 3, 4, 5, 16] [0, 1, 2, 3, 4, 5, 7, 8, 9, 10, 11, 12, 13, 14, 15, 16, 6] rfl rfl (by decide) rfl (by decide) (by decide) (by decide) (fun _ => rfl) (fun _ => rfl) hd kk
theorem jL_M_choose {a0 : Int32} {a1 : Int32} {post : Int32 → sm_T → Prop} (C : fx_C X l rm D cl_s (ty_L k k2 co) cc (c0 :: tb_l) R_L) (hM : fx_MI l D cl_s (ty_M k2) (w_M q2 k2) y_M_choose (k_M_choose :: tb_l) rm_M_choose (.ref (q2 0) :: [.int a0, .int a1]) τ post) (hR : rm_M_choose.frames + 1 ≤ rm.frames ∧ 8 + (3 + 11) + rm_M_choose.locals ≤ rm.locals) (hrest : (rest.map fun v => v.category).sum ≤ 8) (hd : decode cc pc = .ok (.invokevirtual 47, 3)) (kk : ∀ (r : Int32) (u : sm_T), post r u → fx_J X (w_L q k q2 k2 qo co (σ, u, f)) (pc + 3) pl (.int r :: rest)) : fx_J X (w_L q k q2 k2 qo co (σ, τ, f)) pc pl (.int a1 :: .int a0 :: .ref (q2 0) :: rest) :=
  jr_fci (W0 := (fun u => w_L q k q2 k2 qo co (σ, u, f))) (wr := (w_X q k σ ++ [(qo, .inl (co, 1, .inr (.inl f)))])) (As := [.int a0, .int a1]) (rest := rest) (n := 2) (ci := 1) (q0 := 0) C hM (gd_V ci_M_choose ml_L_M_choose im_M_choose se_M_choose ii_M) (by decide +kernel) rfl rfl rfl ⟨rfl, rfl⟩ hR hrest rfl [5, 6, 7, 8, 9, 10, 11, 12, 13] rfl [6, 7, 8, 9, 10, 11, 12, 13, 14, 15] [0, 1, 2, 3, 4, 5, 16] [0, 1, 2, 3, 4, 5, 7, 8, 9, 10, 11, 12, 13, 14, 15, 16, 6] rfl rfl (by decide) rfl (by decide) (by decide) (by decide) (fun _ => rfl) (fun _ => rfl) hd kk
theorem jL_M_count {a0 : Int32} {a1 : Int32} {post : Int32 → sm_T → Prop} (C : fx_C X l rm D cl_s (ty_L k k2 co) cc (c0 :: tb_l) R_L) (hM : fx_MI l D cl_s (ty_M k2) (w_M q2 k2) y_M_count (k_M_count :: tb_l) rm_M_count (.ref (q2 0) :: [.int a0, .int a1]) τ post) (hR : rm_M_count.frames + 1 ≤ rm.frames ∧ 8 + (3 + 11) + rm_M_count.locals ≤ rm.locals) (hrest : (rest.map fun v => v.category).sum ≤ 8) (hd : decode cc pc = .ok (.invokevirtual 51, 3)) (kk : ∀ (r : Int32) (u : sm_T), post r u → fx_J X (w_L q k q2 k2 qo co (σ, u, f)) (pc + 3) pl (.int r :: rest)) : fx_J X (w_L q k q2 k2 qo co (σ, τ, f)) pc pl (.int a1 :: .int a0 :: .ref (q2 0) :: rest) :=
  jr_fci (W0 := (fun u => w_L q k q2 k2 qo co (σ, u, f))) (wr := (w_X q k σ ++ [(qo, .inl (co, 1, .inr (.inl f)))])) (As := [.int a0, .int a1]) (rest := rest) (n := 2) (ci := 1) (q0 := 0) C hM (gd_V ci_M_count ml_L_M_count im_M_count se_M_count ii_M) (by decide +kernel) rfl rfl rfl ⟨rfl, rfl⟩ hR hrest rfl [5, 6, 7, 8, 9, 10, 11, 12, 13] rfl [6, 7, 8, 9, 10, 11, 12, 13, 14, 15] [0, 1, 2, 3, 4, 5, 16] [0, 1, 2, 3, 4, 5, 7, 8, 9, 10, 11, 12, 13, 14, 15, 16, 6] rfl rfl (by decide) rfl (by decide) (by decide) (by decide) (fun _ => rfl) (fun _ => rfl) hd kk
theorem jL_M_top {a0 : Int32} {a1 : Int32} {post : Int32 → sm_T → Prop} (C : fx_C X l rm D cl_s (ty_L k k2 co) cc (c0 :: tb_l) R_L) (hM : fx_MI l D cl_s (ty_M k2) (w_M q2 k2) y_M_top (k_M_top :: tb_l) rm_M_top (.ref (q2 0) :: [.int a0, .int a1]) τ post) (hR : rm_M_top.frames + 1 ≤ rm.frames ∧ 8 + (3 + 11) + rm_M_top.locals ≤ rm.locals) (hrest : (rest.map fun v => v.category).sum ≤ 8) (hd : decode cc pc = .ok (.invokevirtual 55, 3)) (kk : ∀ (r : Int32) (u : sm_T), post r u → fx_J X (w_L q k q2 k2 qo co (σ, u, f)) (pc + 3) pl (.int r :: rest)) : fx_J X (w_L q k q2 k2 qo co (σ, τ, f)) pc pl (.int a1 :: .int a0 :: .ref (q2 0) :: rest) :=
  jr_fci (W0 := (fun u => w_L q k q2 k2 qo co (σ, u, f))) (wr := (w_X q k σ ++ [(qo, .inl (co, 1, .inr (.inl f)))])) (As := [.int a0, .int a1]) (rest := rest) (n := 2) (ci := 1) (q0 := 0) C hM (gd_V ci_M_top ml_L_M_top im_M_top se_M_top ii_M) (by decide +kernel) rfl rfl rfl ⟨rfl, rfl⟩ hR hrest rfl [5, 6, 7, 8, 9, 10, 11, 12, 13] rfl [6, 7, 8, 9, 10, 11, 12, 13, 14, 15] [0, 1, 2, 3, 4, 5, 16] [0, 1, 2, 3, 4, 5, 7, 8, 9, 10, 11, 12, 13, 14, 15, 16, 6] rfl rfl (by decide) rfl (by decide) (by decide) (by decide) (fun _ => rfl) (fun _ => rfl) hd kk
theorem jL_M_below {a0 : Int32} {a1 : Int32} {a2 : Int32} {a3 : Int32} {post : Int32 → sm_T → Prop} (C : fx_C X l rm D cl_s (ty_L k k2 co) cc (c0 :: tb_l) R_L) (hM : fx_MI l D cl_s (ty_M k2) (w_M q2 k2) y_M_below (k_M_below :: tb_l) rm_M_below (.ref (q2 0) :: [.int a0, .int a1, .int a2, .int a3]) τ post) (hR : rm_M_below.frames + 1 ≤ rm.frames ∧ 8 + (5 + 11) + rm_M_below.locals ≤ rm.locals) (hrest : (rest.map fun v => v.category).sum ≤ 8) (hd : decode cc pc = .ok (.invokevirtual 60, 3)) (kk : ∀ (r : Int32) (u : sm_T), post r u → fx_J X (w_L q k q2 k2 qo co (σ, u, f)) (pc + 3) pl (.int r :: rest)) : fx_J X (w_L q k q2 k2 qo co (σ, τ, f)) pc pl (.int a3 :: .int a2 :: .int a1 :: .int a0 :: .ref (q2 0) :: rest) :=
  jr_fci (W0 := (fun u => w_L q k q2 k2 qo co (σ, u, f))) (wr := (w_X q k σ ++ [(qo, .inl (co, 1, .inr (.inl f)))])) (As := [.int a0, .int a1, .int a2, .int a3]) (rest := rest) (n := 4) (ci := 1) (q0 := 0) C hM (gd_V ci_M_below ml_L_M_below im_M_below se_M_below ii_M) (by decide +kernel) rfl rfl rfl ⟨rfl, rfl⟩ hR hrest rfl [5, 6, 7, 8, 9, 10, 11, 12, 13] rfl [6, 7, 8, 9, 10, 11, 12, 13, 14, 15] [0, 1, 2, 3, 4, 5, 16] [0, 1, 2, 3, 4, 5, 7, 8, 9, 10, 11, 12, 13, 14, 15, 16, 6] rfl rfl (by decide) rfl (by decide) (by decide) (by decide) (fun _ => rfl) (fun _ => rfl) hd kk
theorem jL_M_band {a0 : Int32} {a1 : Int32} {a2 : Int32} {post : Int32 → sm_T → Prop} (C : fx_C X l rm D cl_s (ty_L k k2 co) cc (c0 :: tb_l) R_L) (hM : fx_MI l D cl_s (ty_M k2) (w_M q2 k2) y_M_band (k_M_band :: tb_l) rm_M_band (.ref (q2 0) :: [.int a0, .int a1, .int a2]) τ post) (hR : rm_M_band.frames + 1 ≤ rm.frames ∧ 8 + (8 + 11) + rm_M_band.locals ≤ rm.locals) (hrest : (rest.map fun v => v.category).sum ≤ 8) (hd : decode cc pc = .ok (.invokevirtual 64, 3)) (kk : ∀ (r : Int32) (u : sm_T), post r u → fx_J X (w_L q k q2 k2 qo co (σ, u, f)) (pc + 3) pl (.int r :: rest)) : fx_J X (w_L q k q2 k2 qo co (σ, τ, f)) pc pl (.int a2 :: .int a1 :: .int a0 :: .ref (q2 0) :: rest) :=
  jr_fci (W0 := (fun u => w_L q k q2 k2 qo co (σ, u, f))) (wr := (w_X q k σ ++ [(qo, .inl (co, 1, .inr (.inl f)))])) (As := [.int a0, .int a1, .int a2]) (rest := rest) (n := 3) (ci := 1) (q0 := 0) C hM (gd_V ci_M_band ml_L_M_band im_M_band se_M_band ii_M) (by decide +kernel) rfl rfl rfl ⟨rfl, rfl⟩ hR hrest rfl [5, 6, 7, 8, 9, 10, 11, 12, 13] rfl [6, 7, 8, 9, 10, 11, 12, 13, 14, 15] [0, 1, 2, 3, 4, 5, 16] [0, 1, 2, 3, 4, 5, 7, 8, 9, 10, 11, 12, 13, 14, 15, 16, 6] rfl rfl (by decide) rfl (by decide) (by decide) (by decide) (fun _ => rfl) (fun _ => rfl) hd kk
theorem jL_M_share {a0 : Int32} {a1 : Int32} {a2 : Int32} {post : Int64 → sm_T → Prop} (C : fx_C X l rm D cl_s (ty_L k k2 co) cc (c0 :: tb_l) R_L) (hM : fx_ML l D cl_s (ty_M k2) (w_M q2 k2) y_M_share (k_M_share :: tb_l) rm_M_share (.ref (q2 0) :: [.int a0, .int a1, .int a2]) τ post) (hR : rm_M_share.frames + 1 ≤ rm.frames ∧ 8 + (9 + 11) + rm_M_share.locals ≤ rm.locals) (hrest : (rest.map fun v => v.category).sum ≤ 8) (hd : decode cc pc = .ok (.invokevirtual 70, 3)) (kk : ∀ (r : Int64) (u : sm_T), post r u → fx_J X (w_L q k q2 k2 qo co (σ, u, f)) (pc + 3) pl (.long r :: rest)) : fx_J X (w_L q k q2 k2 qo co (σ, τ, f)) pc pl (.int a2 :: .int a1 :: .int a0 :: .ref (q2 0) :: rest) :=
  jr_fcl (W0 := (fun u => w_L q k q2 k2 qo co (σ, u, f))) (wr := (w_X q k σ ++ [(qo, .inl (co, 1, .inr (.inl f)))])) (As := [.int a0, .int a1, .int a2]) (rest := rest) (n := 3) (ci := 1) (q0 := 0) C hM (gd_V ci_M_share ml_L_M_share im_M_share se_M_share ii_M) (by decide +kernel) rfl rfl rfl ⟨rfl, rfl⟩ hR hrest rfl [5, 6, 7, 8, 9, 10, 11, 12, 13] rfl [6, 7, 8, 9, 10, 11, 12, 13, 14, 15] [0, 1, 2, 3, 4, 5, 16] [0, 1, 2, 3, 4, 5, 7, 8, 9, 10, 11, 12, 13, 14, 15, 16, 6] rfl rfl (by decide) rfl (by decide) (by decide) (by decide) (fun _ => rfl) (fun _ => rfl) hd kk
theorem jL_M_thrown  {post : Int32 → sm_T → Prop} (C : fx_C X l rm D cl_s (ty_L k k2 co) cc (c0 :: tb_l) R_L) (hM : fx_MI l D cl_s (ty_M k2) (w_M q2 k2) y_M_thrown (k_M_thrown :: tb_l) rm_M_thrown (.ref (q2 0) :: []) τ post) (hR : rm_M_thrown.frames + 1 ≤ rm.frames ∧ 8 + (1 + 11) + rm_M_thrown.locals ≤ rm.locals) (hrest : (rest.map fun v => v.category).sum ≤ 8) (hd : decode cc pc = .ok (.invokevirtual 71, 3)) (kk : ∀ (r : Int32) (u : sm_T), post r u → fx_J X (w_L q k q2 k2 qo co (σ, u, f)) (pc + 3) pl (.int r :: rest)) : fx_J X (w_L q k q2 k2 qo co (σ, τ, f)) pc pl (.ref (q2 0) :: rest) :=
  jr_fci (W0 := (fun u => w_L q k q2 k2 qo co (σ, u, f))) (wr := (w_X q k σ ++ [(qo, .inl (co, 1, .inr (.inl f)))])) (As := []) (rest := rest) (n := 0) (ci := 1) (q0 := 0) C hM (gd_V ci_M_thrown ml_L_M_thrown im_M_thrown se_M_thrown ii_M) (by decide +kernel) rfl rfl rfl ⟨rfl, rfl⟩ hR hrest rfl [5, 6, 7, 8, 9, 10, 11, 12, 13] rfl [6, 7, 8, 9, 10, 11, 12, 13, 14, 15] [0, 1, 2, 3, 4, 5, 16] [0, 1, 2, 3, 4, 5, 7, 8, 9, 10, 11, 12, 13, 14, 15, 16, 6] rfl rfl (by decide) rfl (by decide) (by decide) (by decide) (fun _ => rfl) (fun _ => rfl) hd kk
theorem jL_M_missing {a0 : Int32} {post : Int32 → sm_T → Prop} (C : fx_C X l rm D cl_s (ty_L k k2 co) cc (c0 :: tb_l) R_L) (hM : fx_MI l D cl_s (ty_M k2) (w_M q2 k2) y_M_missing (k_M_missing :: tb_l) rm_M_missing (.ref (q2 0) :: [.int a0]) τ post) (hR : rm_M_missing.frames + 1 ≤ rm.frames ∧ 8 + (6 + 11) + rm_M_missing.locals ≤ rm.locals) (hrest : (rest.map fun v => v.category).sum ≤ 8) (hd : decode cc pc = .ok (.invokevirtual 78, 3)) (kk : ∀ (r : Int32) (u : sm_T), post r u → fx_J X (w_L q k q2 k2 qo co (σ, u, f)) (pc + 3) pl (.int r :: rest)) : fx_J X (w_L q k q2 k2 qo co (σ, τ, f)) pc pl (.int a0 :: .ref (q2 0) :: rest) :=
  jr_fci (W0 := (fun u => w_L q k q2 k2 qo co (σ, u, f))) (wr := (w_X q k σ ++ [(qo, .inl (co, 1, .inr (.inl f)))])) (As := [.int a0]) (rest := rest) (n := 1) (ci := 1) (q0 := 0) C hM (gd_V ci_M_missing ml_L_M_missing im_M_missing se_M_missing ii_M) (by decide +kernel) rfl rfl rfl ⟨rfl, rfl⟩ hR hrest rfl [5, 6, 7, 8, 9, 10, 11, 12, 13] rfl [6, 7, 8, 9, 10, 11, 12, 13, 14, 15] [0, 1, 2, 3, 4, 5, 16] [0, 1, 2, 3, 4, 5, 7, 8, 9, 10, 11, 12, 13, 14, 15, 16, 6] rfl rfl (by decide) rfl (by decide) (by decide) (by decide) (fun _ => rfl) (fun _ => rfl) hd kk
theorem jL_M_left {a0 : Int32} {post : Int32 → sm_T → Prop} (C : fx_C X l rm D cl_s (ty_L k k2 co) cc (c0 :: tb_l) R_L) (hM : fx_MI l D cl_s (ty_M k2) (w_M q2 k2) y_M_left (k_M_left :: tb_l) rm_M_left (.ref (q2 0) :: [.int a0]) τ post) (hR : rm_M_left.frames + 1 ≤ rm.frames ∧ 8 + (4 + 11) + rm_M_left.locals ≤ rm.locals) (hrest : (rest.map fun v => v.category).sum ≤ 8) (hd : decode cc pc = .ok (.invokevirtual 82, 3)) (kk : ∀ (r : Int32) (u : sm_T), post r u → fx_J X (w_L q k q2 k2 qo co (σ, u, f)) (pc + 3) pl (.int r :: rest)) : fx_J X (w_L q k q2 k2 qo co (σ, τ, f)) pc pl (.int a0 :: .ref (q2 0) :: rest) :=
  jr_fci (W0 := (fun u => w_L q k q2 k2 qo co (σ, u, f))) (wr := (w_X q k σ ++ [(qo, .inl (co, 1, .inr (.inl f)))])) (As := [.int a0]) (rest := rest) (n := 1) (ci := 1) (q0 := 0) C hM (gd_V ci_M_left ml_L_M_left im_M_left se_M_left ii_M) (by decide +kernel) rfl rfl rfl ⟨rfl, rfl⟩ hR hrest rfl [5, 6, 7, 8, 9, 10, 11, 12, 13] rfl [6, 7, 8, 9, 10, 11, 12, 13, 14, 15] [0, 1, 2, 3, 4, 5, 16] [0, 1, 2, 3, 4, 5, 7, 8, 9, 10, 11, 12, 13, 14, 15, 16, 6] rfl rfl (by decide) rfl (by decide) (by decide) (by decide) (fun _ => rfl) (fun _ => rfl) hd kk
theorem jL_L_share {y z sd : Int32} {sa : Nat} {post : Int32 → sx_T × (Nat → Int64) → Prop} (C : fx_C X l rm D cl_s (ty_L k k2 co) cc (c0 :: tb_l) R_L) (hE : ex_P sa X.2.2.2.1.2.2 X.2.1.1 X.2.1.1.heap) (hM : fx_MS l D q k qo co (σ, f) [.ref (q 0), .int y, .int z, .int sd, .ref qo] sa post) (hR : rm_L_share.frames + 1 ≤ rm.frames ∧ 8 + (6 + 11) + rm_L_share.locals ≤ rm.locals) (hcells : X.2.2.2.2.2.1 + 1 ≤ rm.cells) (hslots : X.2.2.2.2.2.2 + 6 ≤ rm.slots) (hrest : (rest.map fun v => v.category).sum ≤ 8) (hd : decode cc pc = .ok (.invokestatic 65, 3)) (kk : ∀ (r : Int32) (u : sx_T × (Nat → Int64)), post r u → fx_J (fx_up X 1 6) (w_L q k q2 k2 qo co (u.1, τ, u.2)) (pc + 3) pl (.int r :: rest)) : fx_J X (w_L q k q2 k2 qo co (σ, τ, f)) pc pl (.ref qo :: .int sd :: .int z :: .int y :: .ref (q 0) :: rest) := by
  intro H locs ls hP hD hS hl
  obtain ⟨hx, hb, hml, hown, hts, hK, hA, hl0, hrm, hDD, hcl2, hfit⟩ := C
  obtain ⟨⟨p, l2, e, R⟩, ⟨s, m, args, below⟩, ⟨meth, c, Q⟩, ⟨D2, cl2, A⟩, nL, cells, slots⟩ := X
  dsimp only [fx_up] at hx hb hml hown hts hK hA hl0 hrm hDD hcl2 hfit hP hD hS hl hcells hslots hE kk ⊢
  subst hl0 hrm hDD hcl2
  have hPc := hP.sub (ws' := w_S q k qo co (σ, f)) [0, 1, 2, 3, 4, 5, 16] rfl
  have hDc := hD.sub (ws' := w_S q k qo co (σ, f)) [0, 1, 2, 3, 4, 5, 16] (by decide) rfl
  have hKc := hK.sub (tys' := ty_S k co) [0, 1, 2, 3, 4, 14] rfl
  have hFc := va_free (wc := w_S q k qo co (σ, f)) hD hS hA [0, 1, 2, 3, 4, 5, 16] rfl
  have hEc : ex_P sa (va_A (w_S q k qo co (σ, f)) H.size) s H := (hE.kept (fun a h1 h2 => hS.2.1 a h1 h2)).narrow hFc
  refine va_calli (vx_runSW (As := [.ref (q 0), .int y, .int z, .int sd, .ref qo]) (rest := rest) ⟨hx, hb, hml, hown, hts⟩ (hM H.size) (vx_cwSW 5 hts (gd_S ci_L_share ml_L_L_share st_L_share ii_L) rfl rfl rfl (by decide +kernel) hR) ⟨fx_blindX, fun U hU hW => ⟨rfl, ⟨by rw [hU], by rw [hU]; exact hPc, va_K.moved hW.alike hKc, hDc.weaken (fun _ _ _ _ => trivial)⟩, by rw [hU]; exact hEc.warm hW⟩⟩ rfl rfl hl.2.1 rfl (lv_room hrest) hd ⟨hcells, hslots⟩) hS (fun q _ h => hFc q h) hFc (fun r u t H1 locs1 ht hvm hw hB2 hz1 hk1 hS1 => ?_)
  obtain ⟨hP1, hK1, hD1⟩ := hB2
  rw [ht] at hP1
  obtain ⟨hP2, hD2⟩ := va_join (wr := w_M q2 k2 τ) (w1 := w_S q k qo co u) hP hD [0, 1, 2, 3, 4, 5, 16] [6, 7, 8, 9, 10, 11, 12, 13, 14, 15] rfl rfl (by decide) (by decide) hk1 hFc hP1 hD1
  exact kk r u hw H1 locs1 ls (hP2.sub [10, 11, 12, 13, 14, 15, 0, 1, 2, 3, 4, 5, 6, 7, 8, 9, 16] rfl) (hD2.sub [10, 11, 12, 13, 14, 15, 0, 1, 2, 3, 4, 5, 6, 7, 8, 9, 16] (by decide) rfl) hS1 hl
end LC
end
section

def R_law : String := "FacetRowsLaw"
def lw_P (b : Addr) (xs : List Int32) (args : Array Value) (s : State) : Prop := args = #[.ref b] ∧ s.IntsAt b xs ∧ xs.length ≤ 2560 ∧ (Jvm.Cond.and given_1 narrow_1).before args s = true
def lw_Q (_ : Array Value) (s : State) (o : Outcome) (t : State) : Prop := o = .returned (some (.int 1)) ∧ Framed s o t [] 1042 13814
def lw_Z (below : List Frame) (a : Array Value) (s : State) : State → Prop := fun t => ∃ o, t.status = .running ∧ Ended t below o ∧ lw_Q a s o t

theorem lw_ret {p : Program} {l : Launch} {e : Env} {s : State} {m : MethodId} {below : List Frame} {meth : Method} {c : Code} {b : Nat} (hx : p.tables.exec = Jvm.exec) (hb : c.code = code) (hr : meth.sig.returnType = ret) (hlocks : meth.locks = false) {pc : Nat} {H : Heap} {ls : Array Slot} (hdg : decode code pc = .ok (.ireturn, 1)) : W p l e room_1 s m #[Value.ref b] below meth c H [] 1042 13814 (lw_Z below #[Value.ref b] s) (F0 m pc ls [.int 1]) := by
  intro T hT X
  obtain ⟨fs, hret, hrun, hended, hW, hframe⟩ := X.leave (v := some (.int 1)) (hlocks := hlocks) (fun h => by rw [hr] at h; cases h)
  have hmeth' : T.vm.method? m = some meth := X.method'
  refine ⟨T.setFrames fs, ?_, .returned (some (.int 1)), hrun, hended, rfl, ⟨_, rfl⟩, hW, hframe⟩
  jvm_step X.here [X.here.top, hx, hb, hdg, hmeth', hr, ret, narrow_b1]
  (try refine ⟨rfl, ?_⟩); (try refine ⟨rfl, ?_⟩)
  first | (intro acts; rw [hret _ acts rfl rfl rfl]) | rw [hret _ _ rfl rfl rfl]
  exact Steps.refl _

def lw_At (p : Program) (s : State) (m : MethodId) (meth : Method) (c : Code) (b L : Nat) (xs : Nat → Int32) : Prop :=
  p.tables.exec = Jvm.exec ∧ c.code = code ∧ meth.sig.returnType = ret ∧ c.maxLocals = 8 ∧ s.vm.findClass R_law = some m.cls ∧ (∀ w ∈ lw_tbl, w.before #[Value.ref b] s = true) ∧ va_X b L xs s s.heap ∧ b < s.heap.size ∧ meth.locks = false ∧ (Jvm.Cond.and given_1 narrow_1).before #[Value.ref b] s = true

def xl_M (p : Program) (l : Launch) (e : Env) (s : State) (m : MethodId) (b : Nat) (below : List Frame) (meth : Method) (c : Code) (D : va_G) (cells slots : Nat) : fx_M := ((p, l, e, room_1), (s, m, #[Value.ref b], below), (meth, c, lw_Z below #[Value.ref b] s), (D, cl_s, fun q => s.heap.size ≤ q), (8, cells, slots))
set_option maxHeartbeats 4000000 in
set_option maxRecDepth 100000 in
theorem law_loop {p : Program} {l : Launch} {e : Env} {s : State} {m : MethodId} {below : List Frame} {meth : Method} {c : Code} {D : va_G} {b L : Nat} {xs : Nat → Int32} {q q2 : Nat → Nat} {k k2 : Nat → ClassId} {qo sa : Nat} {co : ClassId} (hlt : l.stackTraces = false) (hL : L ≤ 2560) (C0 : lw_At p s m meth c b L xs) (hK : va_K D cl_s (ty_L k k2 co) s) (hE : ex_P sa (fun q => s.heap.size ≤ q) s s.heap) :
    ∀ n : Nat, 5 * n ≤ L → ∀ (a : ab_T) (R : Nat → Nat × Nat × Nat) (σ : sx_T) (τ : sm_T) (f : Nat → Int64) (z5 z6 z7 : Option Value), a_wf a → rx_r a σ → rm_r a R τ → fx_J (xl_M p l e s m b below meth c D (17 + n) (5616 + 6 * n)) (w_L q k q2 k2 qo co (σ, τ, f)) 23 [some (.ref b), some (.ref (q 0)), some (.ref (q2 0)), some (.ref qo), some (.int (nI (5 * n))), z5, z6, z7] [] := by
  obtain ⟨hxe, hb, hr, hml, hown, hts, hX, hbl, hlocks, hgv⟩ := C0
  have hbA : ¬ s.heap.size ≤ b := Nat.not_le.mpr hbl
  have CC : ∀ n, 5 * n ≤ L → fx_C (xl_M p l e s m b below meth c D (17 + n) (5616 + 6 * n)) l room_1 D cl_s (ty_L k k2 co) code (k_X_init :: tb_l) R_L := fun n hn => ⟨hxe, hb, hml, hown, fun w h => by
    rcases List.mem_cons.mp h with h | h
    · rw [h]; exact hts _ (tb_ok ci_X_init)
    · exact hts _ (tb_ok h), hK, fun _ h => h, rfl, rfl, rfl, rfl, by show 17 + n ≤ 1042; omega, by show 5616 + 6 * n ≤ 13814; omega⟩
  refine lp_ms (fun n => 1000 - n) (fun n ih hn a R σ τ f z5 z6 z7 hw hx hm => ?_)
  have C := CC n hn
  refine jr_iload_4 C d_law_23 ?_
  refine jr_aload_0 C d_law_25 ?_
  refine jr_slen C hX hbl hbA d_law_26 ?_
  refine jr_iconst (v := nI 5) C d_law_27 (by decide) ?_
  refine jr_isub C d_law_28 ?_
  refine jr_icmp_gt (tgt := 689) C d_law_29 (by decide) (fun h => ?_) (fun h => ?_)
  · refine jr_iconst (v := 1) C d_law_689 (by decide) ?_
    intro H locs ls hP hD hS hl
    refine va_forget (fun q hq => hS.2.2 q hq) ?_
    refine W.widen (k := 1042) (n := 13814) (by show 17 + n ≤ 1042; omega) (by show 5616 + 6 * n ≤ 13814; omega) ?_
    exact lw_ret hxe hb hr hlocks d_law_690
  · have hn5 : 5 * n + 5 ≤ L := by
      rw [Int32.lt_iff_toInt_lt, pk_sub_toInt (by omega) (by omega), nI_toInt (by omega)] at h
      omega
    have next1 : ∀ (a : ab_T) (R : Nat → Nat × Nat × Nat) (σ : sx_T) (τ : sm_T) (f : Nat → Int64) (z5 z6 z7 : Option Value), a_wf a → rx_r a σ → rm_r a R τ → fx_J (xl_M p l e s m b below meth c D (17 + (n + 1)) (5616 + 6 * (n + 1))) (w_L q k q2 k2 qo co (σ, τ, f)) 683 [some (.ref b), some (.ref (q 0)), some (.ref (q2 0)), some (.ref qo), some (.int (nI (5 * n))), z5, z6, z7] [] := by
      intro a R σ τ f z5 z6 z7 hw hx hm
      have C := CC (n + 1) (by omega)
      refine jr_iinc_4 (v := nI (5 * (n + 1))) C d_law_683 (by show nI (5 * n) + nI 5 = nI (5 * (n + 1)); rw [nI_add]; rfl) rfl ?_
      refine jr_goto (tgt := 23) C d_law_686 (by decide) ?_
      exact ih (n + 1) (by omega) (by omega) a R σ τ f z5 z6 z7 hw hx hm
    have next0 : ∀ (a : ab_T) (R : Nat → Nat × Nat × Nat) (σ : sx_T) (τ : sm_T) (f : Nat → Int64) (z5 z6 z7 : Option Value), a_wf a → rx_r a σ → rm_r a R τ → fx_J (xl_M p l e s m b below meth c D (17 + n) (5616 + 6 * n)) (w_L q k q2 k2 qo co (σ, τ, f)) 683 [some (.ref b), some (.ref (q 0)), some (.ref (q2 0)), some (.ref qo), some (.int (nI (5 * n))), z5, z6, z7] [] := fun a R σ τ f z5 z6 z7 hw hx hm => jr_widen (a := 1) (b := 6) (next1 a R σ τ f z5 z6 z7 hw hx hm)
    refine jr_aload_0 C d_law_32 ?_
    refine jr_iload_4 C d_law_33 ?_
    refine jr_sld C hX hbl hbA (by omega) (by omega) d_law_35 ?_
    refine jr_bipush (v := nI 15) C d_law_36 (by decide) ?_
    obtain ⟨j, hj, ej⟩ : ∃ j : Nat, j < 16 ∧ xs (5 * n) &&& nI 15 = nI j := ⟨_, Nat.mod_lt _ (by decide), pk_and _ 4 (by decide)⟩
    refine jr_iand C d_law_38 ?_
    refine jr_eqi ej ?_
    rcases (show j = 0 ∨ j = 1 ∨ j = 2 ∨ j = 3 ∨ j = 4 ∨ j = 5 ∨ j = 6 ∨ j = 7 ∨ j = 8 ∨ j = 9 ∨ j = 10 ∨ j = 11 ∨ j = 12 ∨ (13 ≤ j) by omega) with rfl | rfl | rfl | rfl | rfl | rfl | rfl | rfl | rfl | rfl | rfl | rfl | rfl | hj13
    · refine jr_tin (off := 65) (tgt := 104) C d_law_39 (by decide) (by decide) (by decide) (by decide) ?_
      refine jr_aload_1 C d_law_104 ?_
      refine jL_X_record C (cX_record l D q k σ a hw hx) ⟨Nat.le_of_ble_eq_true rfl, Nat.le_of_ble_eq_true rfl⟩ (Nat.le_of_ble_eq_true rfl) d_law_105 (fun r1 σ1 g1 => ?_)
      refine jr_aload_2 C d_law_108 ?_
      refine jL_M_record C (cM_record l D q2 k2 τ a R hw hm) ⟨Nat.le_of_ble_eq_true rfl, Nat.le_of_ble_eq_true rfl⟩ (Nat.le_of_ble_eq_true rfl) d_law_109 (fun r2 τ1 g2 => ?_)
      refine jr_icmp_eq (tgt := 683) C d_law_112 (by decide) (fun e => ?_) (fun e => ?_)
      · exact next0 _ R σ1 τ1 f z5 z6 z7 (wf_record hw) g1.2 g2.2
      · exact absurd (by rw [g1.1, g2.1]) e
    · refine jr_tin (off := 78) (tgt := 117) C d_law_39 (by decide) (by decide) (by decide) (by decide) ?_
      refine jr_aload_1 C d_law_117 ?_
      refine jr_aload_0 C d_law_118 ?_
      refine jr_iload_4 C d_law_119 ?_
      refine jr_iconst (v := nI 1) C d_law_121 (by decide) ?_
      refine jr_iaddN C d_law_122 ?_
      refine jr_sld C hX hbl hbA (by omega) (by omega) d_law_123 ?_
      refine jr_aload_0 C d_law_124 ?_
      refine jr_iload_4 C d_law_125 ?_
      refine jr_iconst (v := nI 2) C d_law_127 (by decide) ?_
      refine jr_iaddN C d_law_128 ?_
      refine jr_sld C hX hbl hbA (by omega) (by omega) d_law_129 ?_
      refine jr_aload_0 C d_law_130 ?_
      refine jr_iload_4 C d_law_131 ?_
      refine jr_iconst (v := nI 3) C d_law_133 (by decide) ?_
      refine jr_iaddN C d_law_134 ?_
      refine jr_sld C hX hbl hbA (by omega) (by omega) d_law_135 ?_
      refine jL_X_value C (cX_value l D q k σ a hw hx _ _ _) ⟨Nat.le_of_ble_eq_true rfl, Nat.le_of_ble_eq_true rfl⟩ (Nat.le_of_ble_eq_true rfl) d_law_136 (fun r1 σ1 g1 => ?_)
      refine jr_aload_2 C d_law_139 ?_
      refine jr_aload_0 C d_law_140 ?_
      refine jr_iload_4 C d_law_141 ?_
      refine jr_iconst (v := nI 1) C d_law_143 (by decide) ?_
      refine jr_iaddN C d_law_144 ?_
      refine jr_sld C hX hbl hbA (by omega) (by omega) d_law_145 ?_
      refine jr_aload_0 C d_law_146 ?_
      refine jr_iload_4 C d_law_147 ?_
      refine jr_iconst (v := nI 2) C d_law_149 (by decide) ?_
      refine jr_iaddN C d_law_150 ?_
      refine jr_sld C hX hbl hbA (by omega) (by omega) d_law_151 ?_
      refine jr_aload_0 C d_law_152 ?_
      refine jr_iload_4 C d_law_153 ?_
      refine jr_iconst (v := nI 3) C d_law_155 (by decide) ?_
      refine jr_iaddN C d_law_156 ?_
      refine jr_sld C hX hbl hbA (by omega) (by omega) d_law_157 ?_
      refine jL_M_value C (cM_value l D q2 k2 τ a R hw hm _ _ _) ⟨Nat.le_of_ble_eq_true rfl, Nat.le_of_ble_eq_true rfl⟩ (Nat.le_of_ble_eq_true rfl) d_law_158 (fun r2 τ1 g2 => ?_)
      refine jr_icmp_eq (tgt := 683) C d_law_161 (by decide) (fun e => ?_) (fun e => ?_)
      · obtain ⟨-, R2, g3⟩ := g2
        exact next0 _ R2 σ1 τ1 f z5 z6 z7 (wf_value hw _ _ _) g1.2 g3
      · exact absurd (by rw [g1.1, g2.1]) e
    · refine jr_tin (off := 127) (tgt := 166) C d_law_39 (by decide) (by decide) (by decide) (by decide) ?_
      refine jr_aload_1 C d_law_166 ?_
      refine jr_aload_0 C d_law_167 ?_
      refine jr_iload_4 C d_law_168 ?_
      refine jr_iconst (v := nI 1) C d_law_170 (by decide) ?_
      refine jr_iaddN C d_law_171 ?_
      refine jr_sld C hX hbl hbA (by omega) (by omega) d_law_172 ?_
      refine jr_aload_0 C d_law_173 ?_
      refine jr_iload_4 C d_law_174 ?_
      refine jr_iconst (v := nI 2) C d_law_176 (by decide) ?_
      refine jr_iaddN C d_law_177 ?_
      refine jr_sld C hX hbl hbA (by omega) (by omega) d_law_178 ?_
      refine jr_aload_0 C d_law_179 ?_
      refine jr_iload_4 C d_law_180 ?_
      refine jr_iconst (v := nI 3) C d_law_182 (by decide) ?_
      refine jr_iaddN C d_law_183 ?_
      refine jr_sld C hX hbl hbA (by omega) (by omega) d_law_184 ?_
      refine jL_X_gone C (cX_gone l D q k σ a hw hx (pm_pos hm) _ _ _) ⟨Nat.le_of_ble_eq_true rfl, Nat.le_of_ble_eq_true rfl⟩ (Nat.le_of_ble_eq_true rfl) d_law_185 (fun r1 σ1 g1 => ?_)
      refine jr_aload_2 C d_law_188 ?_
      refine jr_aload_0 C d_law_189 ?_
      refine jr_iload_4 C d_law_190 ?_
      refine jr_iconst (v := nI 1) C d_law_192 (by decide) ?_
      refine jr_iaddN C d_law_193 ?_
      refine jr_sld C hX hbl hbA (by omega) (by omega) d_law_194 ?_
      refine jr_aload_0 C d_law_195 ?_
      refine jr_iload_4 C d_law_196 ?_
      refine jr_iconst (v := nI 2) C d_law_198 (by decide) ?_
      refine jr_iaddN C d_law_199 ?_
      refine jr_sld C hX hbl hbA (by omega) (by omega) d_law_200 ?_
      refine jr_aload_0 C d_law_201 ?_
      refine jr_iload_4 C d_law_202 ?_
      refine jr_iconst (v := nI 3) C d_law_204 (by decide) ?_
      refine jr_iaddN C d_law_205 ?_
      refine jr_sld C hX hbl hbA (by omega) (by omega) d_law_206 ?_
      refine jL_M_gone C (cM_gone l D q2 k2 τ a R hw hm _ _ _) ⟨Nat.le_of_ble_eq_true rfl, Nat.le_of_ble_eq_true rfl⟩ (Nat.le_of_ble_eq_true rfl) d_law_207 (fun r2 τ1 g2 => ?_)
      refine jr_icmp_eq (tgt := 683) C d_law_210 (by decide) (fun e => ?_) (fun e => ?_)
      · obtain ⟨-, R2, g3⟩ := g2
        exact next0 _ R2 σ1 τ1 f z5 z6 z7 (wf_gone hw _ _ _) g1.2 g3
      · exact absurd (by rw [g1.1, g2.1]) e
    · refine jr_tin (off := 176) (tgt := 215) C d_law_39 (by decide) (by decide) (by decide) (by decide) ?_
      refine jr_aload_1 C d_law_215 ?_
      refine jr_aload_0 C d_law_216 ?_
      refine jr_iload_4 C d_law_217 ?_
      refine jr_iconst (v := nI 1) C d_law_219 (by decide) ?_
      refine jr_iaddN C d_law_220 ?_
      refine jr_sld C hX hbl hbA (by omega) (by omega) d_law_221 ?_
      refine jr_aload_0 C d_law_222 ?_
      refine jr_iload_4 C d_law_223 ?_
      refine jr_iconst (v := nI 2) C d_law_225 (by decide) ?_
      refine jr_iaddN C d_law_226 ?_
      refine jr_sld C hX hbl hbA (by omega) (by omega) d_law_227 ?_
      refine jr_aload_0 C d_law_228 ?_
      refine jr_iload_4 C d_law_229 ?_
      refine jr_iconst (v := nI 3) C d_law_231 (by decide) ?_
      refine jr_iaddN C d_law_232 ?_
      refine jr_sld C hX hbl hbA (by omega) (by omega) d_law_233 ?_
      refine jL_X_narrower C (cX_narrower l D q k σ a hw hx _ _ _) ⟨Nat.le_of_ble_eq_true rfl, Nat.le_of_ble_eq_true rfl⟩ (Nat.le_of_ble_eq_true rfl) d_law_234 (fun r1 σ1 g1 => ?_)
      refine jr_aload_2 C d_law_237 ?_
      refine jr_aload_0 C d_law_238 ?_
      refine jr_iload_4 C d_law_239 ?_
      refine jr_iconst (v := nI 1) C d_law_241 (by decide) ?_
      refine jr_iaddN C d_law_242 ?_
      refine jr_sld C hX hbl hbA (by omega) (by omega) d_law_243 ?_
      refine jr_aload_0 C d_law_244 ?_
      refine jr_iload_4 C d_law_245 ?_
      refine jr_iconst (v := nI 2) C d_law_247 (by decide) ?_
      refine jr_iaddN C d_law_248 ?_
      refine jr_sld C hX hbl hbA (by omega) (by omega) d_law_249 ?_
      refine jr_aload_0 C d_law_250 ?_
      refine jr_iload_4 C d_law_251 ?_
      refine jr_iconst (v := nI 3) C d_law_253 (by decide) ?_
      refine jr_iaddN C d_law_254 ?_
      refine jr_sld C hX hbl hbA (by omega) (by omega) d_law_255 ?_
      refine jL_M_narrower C (cM_narrower l D q2 k2 τ a R hw hm _ _ _) ⟨Nat.le_of_ble_eq_true rfl, Nat.le_of_ble_eq_true rfl⟩ (Nat.le_of_ble_eq_true rfl) d_law_256 (fun r2 τ1 g2 => ?_)
      refine jr_icmp_eq (tgt := 683) C d_law_259 (by decide) (fun e => ?_) (fun e => ?_)
      · exact next0 _ R σ1 τ1 f z5 z6 z7 (wf_narrower hw _ _ _) g1.2 g2.2
      · exact absurd (by rw [g1.1, g2.1]) e
    · refine jr_tin (off := 225) (tgt := 264) C d_law_39 (by decide) (by decide) (by decide) (by decide) ?_
      refine jr_aload_1 C d_law_264 ?_
      refine jr_aload_0 C d_law_265 ?_
      refine jr_iload_4 C d_law_266 ?_
      refine jr_iconst (v := nI 1) C d_law_268 (by decide) ?_
      refine jr_iaddN C d_law_269 ?_
      refine jr_sld C hX hbl hbA (by omega) (by omega) d_law_270 ?_
      refine jr_aload_0 C d_law_271 ?_
      refine jr_iload_4 C d_law_272 ?_
      refine jr_iconst (v := nI 2) C d_law_274 (by decide) ?_
      refine jr_iaddN C d_law_275 ?_
      refine jr_sld C hX hbl hbA (by omega) (by omega) d_law_276 ?_
      refine jr_if_eq (tgt := 284) C d_law_277 (by decide) (fun e0 => ?_) (fun e0 => ?_)
      · refine jr_iconst (v := nI 0) C d_law_284 (by decide) ?_
        refine jr_eqi (show nI 0 = b01 false from rfl) ?_
        refine jL_X_hit C (cX_hit l D q k σ a hw hx _ false) ⟨Nat.le_of_ble_eq_true rfl, Nat.le_of_ble_eq_true rfl⟩ (Nat.le_of_ble_eq_true rfl) d_law_285 (fun r1 σ1 g1 => ?_)
        refine jr_aload_2 C d_law_288 ?_
        refine jr_aload_0 C d_law_289 ?_
        refine jr_iload_4 C d_law_290 ?_
        refine jr_iconst (v := nI 1) C d_law_292 (by decide) ?_
        refine jr_iaddN C d_law_293 ?_
        refine jr_sld C hX hbl hbA (by omega) (by omega) d_law_294 ?_
        refine jr_aload_0 C d_law_295 ?_
        refine jr_iload_4 C d_law_296 ?_
        refine jr_iconst (v := nI 2) C d_law_298 (by decide) ?_
        refine jr_iaddN C d_law_299 ?_
        refine jr_sld C hX hbl hbA (by omega) (by omega) d_law_300 ?_
        refine jr_if_eq (tgt := 308) C d_law_301 (by decide) (fun e1 => ?_) (fun e1 => ?_)
        · refine jr_iconst (v := nI 0) C d_law_308 (by decide) ?_
          refine jr_eqi (show nI 0 = b01 false from rfl) ?_
          refine jL_M_hit C (cM_hit l D q2 k2 τ a R hw hm _ false) ⟨Nat.le_of_ble_eq_true rfl, Nat.le_of_ble_eq_true rfl⟩ (Nat.le_of_ble_eq_true rfl) d_law_309 (fun r2 τ1 g2 => ?_)
          refine jr_icmp_eq (tgt := 683) C d_law_312 (by decide) (fun e => ?_) (fun e => ?_)
          · exact next0 _ R σ1 τ1 f z5 z6 z7 (wf_hit hw _ _) g1.2 g2.2
          · exact absurd (by rw [g1.1, g2.1]) e
        · exact absurd e0 e1
      · refine jr_iconst (v := nI 1) C d_law_280 (by decide) ?_
        refine jr_goto (tgt := 285) C d_law_281 (by decide) ?_
        refine jr_eqi (show nI 1 = b01 true from rfl) ?_
        refine jL_X_hit C (cX_hit l D q k σ a hw hx _ true) ⟨Nat.le_of_ble_eq_true rfl, Nat.le_of_ble_eq_true rfl⟩ (Nat.le_of_ble_eq_true rfl) d_law_285 (fun r1 σ1 g1 => ?_)
        refine jr_aload_2 C d_law_288 ?_
        refine jr_aload_0 C d_law_289 ?_
        refine jr_iload_4 C d_law_290 ?_
        refine jr_iconst (v := nI 1) C d_law_292 (by decide) ?_
        refine jr_iaddN C d_law_293 ?_
        refine jr_sld C hX hbl hbA (by omega) (by omega) d_law_294 ?_
        refine jr_aload_0 C d_law_295 ?_
        refine jr_iload_4 C d_law_296 ?_
        refine jr_iconst (v := nI 2) C d_law_298 (by decide) ?_
        refine jr_iaddN C d_law_299 ?_
        refine jr_sld C hX hbl hbA (by omega) (by omega) d_law_300 ?_
        refine jr_if_eq (tgt := 308) C d_law_301 (by decide) (fun e1 => ?_) (fun e1 => ?_)
        · exact absurd e1 e0
        · refine jr_iconst (v := nI 1) C d_law_304 (by decide) ?_
          refine jr_goto (tgt := 309) C d_law_305 (by decide) ?_
          refine jr_eqi (show nI 1 = b01 true from rfl) ?_
          refine jL_M_hit C (cM_hit l D q2 k2 τ a R hw hm _ true) ⟨Nat.le_of_ble_eq_true rfl, Nat.le_of_ble_eq_true rfl⟩ (Nat.le_of_ble_eq_true rfl) d_law_309 (fun r2 τ1 g2 => ?_)
          refine jr_icmp_eq (tgt := 683) C d_law_312 (by decide) (fun e => ?_) (fun e => ?_)
          · exact next0 _ R σ1 τ1 f z5 z6 z7 (wf_hit hw _ _) g1.2 g2.2
          · exact absurd (by rw [g1.1, g2.1]) e
    · refine jr_tin (off := 278) (tgt := 317) C d_law_39 (by decide) (by decide) (by decide) (by decide) ?_
      refine jr_aload_1 C d_law_317 ?_
      refine jr_aload_0 C d_law_318 ?_
      refine jr_iload_4 C d_law_319 ?_
      refine jr_iconst (v := nI 1) C d_law_321 (by decide) ?_
      refine jr_iaddN C d_law_322 ?_
      refine jr_sld C hX hbl hbA (by omega) (by omega) d_law_323 ?_
      refine jr_aload_0 C d_law_324 ?_
      refine jr_iload_4 C d_law_325 ?_
      refine jr_iconst (v := nI 2) C d_law_327 (by decide) ?_
      refine jr_iaddN C d_law_328 ?_
      refine jr_sld C hX hbl hbA (by omega) (by omega) d_law_329 ?_
      refine jL_X_choose C (cX_choose l D q k σ a hx _ _) ⟨Nat.le_of_ble_eq_true rfl, Nat.le_of_ble_eq_true rfl⟩ (Nat.le_of_ble_eq_true rfl) d_law_330 (fun r1 σ1 g1 => ?_)
      refine jr_aload_2 C d_law_333 ?_
      refine jr_aload_0 C d_law_334 ?_
      refine jr_iload_4 C d_law_335 ?_
      refine jr_iconst (v := nI 1) C d_law_337 (by decide) ?_
      refine jr_iaddN C d_law_338 ?_
      refine jr_sld C hX hbl hbA (by omega) (by omega) d_law_339 ?_
      refine jr_aload_0 C d_law_340 ?_
      refine jr_iload_4 C d_law_341 ?_
      refine jr_iconst (v := nI 2) C d_law_343 (by decide) ?_
      refine jr_iaddN C d_law_344 ?_
      refine jr_sld C hX hbl hbA (by omega) (by omega) d_law_345 ?_
      refine jL_M_choose C (cM_choose l D q2 k2 τ a R hw hm _ _) ⟨Nat.le_of_ble_eq_true rfl, Nat.le_of_ble_eq_true rfl⟩ (Nat.le_of_ble_eq_true rfl) d_law_346 (fun r2 τ1 g2 => ?_)
      refine jr_icmp_eq (tgt := 683) C d_law_349 (by decide) (fun e => ?_) (fun e => ?_)
      · exact next0 _ R σ1 τ1 f z5 z6 z7 (wf_choose hw _ _) g1.2 g2.2
      · exact absurd (by rw [g1.1, g2.1]) e
    · refine jr_tin (off := 315) (tgt := 354) C d_law_39 (by decide) (by decide) (by decide) (by decide) ?_
      refine jr_aload_1 C d_law_354 ?_
      refine jr_aload_0 C d_law_355 ?_
      refine jr_iload_4 C d_law_356 ?_
      refine jr_iconst (v := nI 1) C d_law_358 (by decide) ?_
      refine jr_iaddN C d_law_359 ?_
      refine jr_sld C hX hbl hbA (by omega) (by omega) d_law_360 ?_
      refine jr_aload_0 C d_law_361 ?_
      refine jr_iload_4 C d_law_362 ?_
      refine jr_iconst (v := nI 2) C d_law_364 (by decide) ?_
      refine jr_iaddN C d_law_365 ?_
      refine jr_sld C hX hbl hbA (by omega) (by omega) d_law_366 ?_
      refine jL_X_count C (cX_count l D q k σ a hx _ _) ⟨Nat.le_of_ble_eq_true rfl, Nat.le_of_ble_eq_true rfl⟩ (Nat.le_of_ble_eq_true rfl) d_law_367 (fun r1 σ1 g1 => ?_)
      refine jr_aload_2 C d_law_370 ?_
      refine jr_aload_0 C d_law_371 ?_
      refine jr_iload_4 C d_law_372 ?_
      refine jr_iconst (v := nI 1) C d_law_374 (by decide) ?_
      refine jr_iaddN C d_law_375 ?_
      refine jr_sld C hX hbl hbA (by omega) (by omega) d_law_376 ?_
      refine jr_aload_0 C d_law_377 ?_
      refine jr_iload_4 C d_law_378 ?_
      refine jr_iconst (v := nI 2) C d_law_380 (by decide) ?_
      refine jr_iaddN C d_law_381 ?_
      refine jr_sld C hX hbl hbA (by omega) (by omega) d_law_382 ?_
      refine jL_M_count C (cM_count l D q2 k2 τ a R hw hm _ _) ⟨Nat.le_of_ble_eq_true rfl, Nat.le_of_ble_eq_true rfl⟩ (Nat.le_of_ble_eq_true rfl) d_law_383 (fun r2 τ1 g2 => ?_)
      refine jr_icmp_eq (tgt := 683) C d_law_386 (by decide) (fun e => ?_) (fun e => ?_)
      · exact next0 a R σ1 τ1 f z5 z6 z7 hw g1.2 g2.2
      · exact absurd (by rw [g1.1, g2.1]) e
    · refine jr_tin (off := 352) (tgt := 391) C d_law_39 (by decide) (by decide) (by decide) (by decide) ?_
      refine jr_aload_1 C d_law_391 ?_
      refine jr_aload_0 C d_law_392 ?_
      refine jr_iload_4 C d_law_393 ?_
      refine jr_iconst (v := nI 1) C d_law_395 (by decide) ?_
      refine jr_iaddN C d_law_396 ?_
      refine jr_sld C hX hbl hbA (by omega) (by omega) d_law_397 ?_
      refine jr_aload_0 C d_law_398 ?_
      refine jr_iload_4 C d_law_399 ?_
      refine jr_iconst (v := nI 2) C d_law_401 (by decide) ?_
      refine jr_iaddN C d_law_402 ?_
      refine jr_sld C hX hbl hbA (by omega) (by omega) d_law_403 ?_
      refine jL_X_top C (cX_top l D q k σ a hw hx _ _) ⟨Nat.le_of_ble_eq_true rfl, Nat.le_of_ble_eq_true rfl⟩ (Nat.le_of_ble_eq_true rfl) d_law_404 (fun r1 σ1 g1 => ?_)
      refine jr_aload_2 C d_law_407 ?_
      refine jr_aload_0 C d_law_408 ?_
      refine jr_iload_4 C d_law_409 ?_
      refine jr_iconst (v := nI 1) C d_law_411 (by decide) ?_
      refine jr_iaddN C d_law_412 ?_
      refine jr_sld C hX hbl hbA (by omega) (by omega) d_law_413 ?_
      refine jr_aload_0 C d_law_414 ?_
      refine jr_iload_4 C d_law_415 ?_
      refine jr_iconst (v := nI 2) C d_law_417 (by decide) ?_
      refine jr_iaddN C d_law_418 ?_
      refine jr_sld C hX hbl hbA (by omega) (by omega) d_law_419 ?_
      refine jL_M_top C (cM_top l D q2 k2 τ a R hw hm _ _) ⟨Nat.le_of_ble_eq_true rfl, Nat.le_of_ble_eq_true rfl⟩ (Nat.le_of_ble_eq_true rfl) d_law_420 (fun r2 τ1 g2 => ?_)
      refine jr_icmp_eq (tgt := 683) C d_law_423 (by decide) (fun e => ?_) (fun e => ?_)
      · exact next0 a R σ1 τ1 f z5 z6 z7 hw g1.2 g2.2
      · exact absurd (fn_top g1.1 g2.1) e
    · refine jr_tin (off := 389) (tgt := 428) C d_law_39 (by decide) (by decide) (by decide) (by decide) ?_
      refine jr_aload_1 C d_law_428 ?_
      refine jr_aload_0 C d_law_429 ?_
      refine jr_iload_4 C d_law_430 ?_
      refine jr_iconst (v := nI 1) C d_law_432 (by decide) ?_
      refine jr_iaddN C d_law_433 ?_
      refine jr_sld C hX hbl hbA (by omega) (by omega) d_law_434 ?_
      refine jr_aload_0 C d_law_435 ?_
      refine jr_iload_4 C d_law_436 ?_
      refine jr_iconst (v := nI 2) C d_law_438 (by decide) ?_
      refine jr_iaddN C d_law_439 ?_
      refine jr_sld C hX hbl hbA (by omega) (by omega) d_law_440 ?_
      refine jr_if_eq (tgt := 448) C d_law_441 (by decide) (fun e0 => ?_) (fun e0 => ?_)
      · refine jr_iconst (v := nI 0) C d_law_448 (by decide) ?_
        refine jr_eqi (show nI 0 = b01 false from rfl) ?_
        refine jr_aload_0 C d_law_449 ?_
        refine jr_iload_4 C d_law_450 ?_
        refine jr_iconst (v := nI 3) C d_law_452 (by decide) ?_
        refine jr_iaddN C d_law_453 ?_
        refine jr_sld C hX hbl hbA (by omega) (by omega) d_law_454 ?_
        refine jr_aload_0 C d_law_455 ?_
        refine jr_iload_4 C d_law_456 ?_
        refine jr_iconst (v := nI 4) C d_law_458 (by decide) ?_
        refine jr_iaddN C d_law_459 ?_
        refine jr_sld C hX hbl hbA (by omega) (by omega) d_law_460 ?_
        refine jL_X_below C (cX_below l D q k σ a hw hx _ false _ _) ⟨Nat.le_of_ble_eq_true rfl, Nat.le_of_ble_eq_true rfl⟩ (Nat.le_of_ble_eq_true rfl) d_law_461 (fun r1 σ1 g1 => ?_)
        refine jr_aload_2 C d_law_464 ?_
        refine jr_aload_0 C d_law_465 ?_
        refine jr_iload_4 C d_law_466 ?_
        refine jr_iconst (v := nI 1) C d_law_468 (by decide) ?_
        refine jr_iaddN C d_law_469 ?_
        refine jr_sld C hX hbl hbA (by omega) (by omega) d_law_470 ?_
        refine jr_aload_0 C d_law_471 ?_
        refine jr_iload_4 C d_law_472 ?_
        refine jr_iconst (v := nI 2) C d_law_474 (by decide) ?_
        refine jr_iaddN C d_law_475 ?_
        refine jr_sld C hX hbl hbA (by omega) (by omega) d_law_476 ?_
        refine jr_if_eq (tgt := 484) C d_law_477 (by decide) (fun e1 => ?_) (fun e1 => ?_)
        · refine jr_iconst (v := nI 0) C d_law_484 (by decide) ?_
          refine jr_eqi (show nI 0 = b01 false from rfl) ?_
          refine jr_aload_0 C d_law_485 ?_
          refine jr_iload_4 C d_law_486 ?_
          refine jr_iconst (v := nI 3) C d_law_488 (by decide) ?_
          refine jr_iaddN C d_law_489 ?_
          refine jr_sld C hX hbl hbA (by omega) (by omega) d_law_490 ?_
          refine jr_aload_0 C d_law_491 ?_
          refine jr_iload_4 C d_law_492 ?_
          refine jr_iconst (v := nI 4) C d_law_494 (by decide) ?_
          refine jr_iaddN C d_law_495 ?_
          refine jr_sld C hX hbl hbA (by omega) (by omega) d_law_496 ?_
          refine jL_M_below C (cM_below l D q2 k2 τ a R hw hm _ false _ _) ⟨Nat.le_of_ble_eq_true rfl, Nat.le_of_ble_eq_true rfl⟩ (Nat.le_of_ble_eq_true rfl) d_law_497 (fun r2 τ1 g2 => ?_)
          refine jr_icmp_eq (tgt := 683) C d_law_500 (by decide) (fun e => ?_) (fun e => ?_)
          · exact next0 a R σ1 τ1 f z5 z6 z7 hw g1.2 g2.2
          · exact absurd (fn_below g1.1 g2.1) e
        · exact absurd e0 e1
      · refine jr_iconst (v := nI 1) C d_law_444 (by decide) ?_
        refine jr_goto (tgt := 449) C d_law_445 (by decide) ?_
        refine jr_eqi (show nI 1 = b01 true from rfl) ?_
        refine jr_aload_0 C d_law_449 ?_
        refine jr_iload_4 C d_law_450 ?_
        refine jr_iconst (v := nI 3) C d_law_452 (by decide) ?_
        refine jr_iaddN C d_law_453 ?_
        refine jr_sld C hX hbl hbA (by omega) (by omega) d_law_454 ?_
        refine jr_aload_0 C d_law_455 ?_
        refine jr_iload_4 C d_law_456 ?_
        refine jr_iconst (v := nI 4) C d_law_458 (by decide) ?_
        refine jr_iaddN C d_law_459 ?_
        refine jr_sld C hX hbl hbA (by omega) (by omega) d_law_460 ?_
        refine jL_X_below C (cX_below l D q k σ a hw hx _ true _ _) ⟨Nat.le_of_ble_eq_true rfl, Nat.le_of_ble_eq_true rfl⟩ (Nat.le_of_ble_eq_true rfl) d_law_461 (fun r1 σ1 g1 => ?_)
        refine jr_aload_2 C d_law_464 ?_
        refine jr_aload_0 C d_law_465 ?_
        refine jr_iload_4 C d_law_466 ?_
        refine jr_iconst (v := nI 1) C d_law_468 (by decide) ?_
        refine jr_iaddN C d_law_469 ?_
        refine jr_sld C hX hbl hbA (by omega) (by omega) d_law_470 ?_
        refine jr_aload_0 C d_law_471 ?_
        refine jr_iload_4 C d_law_472 ?_
        refine jr_iconst (v := nI 2) C d_law_474 (by decide) ?_
        refine jr_iaddN C d_law_475 ?_
        refine jr_sld C hX hbl hbA (by omega) (by omega) d_law_476 ?_
        refine jr_if_eq (tgt := 484) C d_law_477 (by decide) (fun e1 => ?_) (fun e1 => ?_)
        · exact absurd e1 e0
        · refine jr_iconst (v := nI 1) C d_law_480 (by decide) ?_
          refine jr_goto (tgt := 485) C d_law_481 (by decide) ?_
          refine jr_eqi (show nI 1 = b01 true from rfl) ?_
          refine jr_aload_0 C d_law_485 ?_
          refine jr_iload_4 C d_law_486 ?_
          refine jr_iconst (v := nI 3) C d_law_488 (by decide) ?_
          refine jr_iaddN C d_law_489 ?_
          refine jr_sld C hX hbl hbA (by omega) (by omega) d_law_490 ?_
          refine jr_aload_0 C d_law_491 ?_
          refine jr_iload_4 C d_law_492 ?_
          refine jr_iconst (v := nI 4) C d_law_494 (by decide) ?_
          refine jr_iaddN C d_law_495 ?_
          refine jr_sld C hX hbl hbA (by omega) (by omega) d_law_496 ?_
          refine jL_M_below C (cM_below l D q2 k2 τ a R hw hm _ true _ _) ⟨Nat.le_of_ble_eq_true rfl, Nat.le_of_ble_eq_true rfl⟩ (Nat.le_of_ble_eq_true rfl) d_law_497 (fun r2 τ1 g2 => ?_)
          refine jr_icmp_eq (tgt := 683) C d_law_500 (by decide) (fun e => ?_) (fun e => ?_)
          · exact next0 a R σ1 τ1 f z5 z6 z7 hw g1.2 g2.2
          · exact absurd (fn_below g1.1 g2.1) e
    · refine jr_tin (off := 466) (tgt := 505) C d_law_39 (by decide) (by decide) (by decide) (by decide) ?_
      refine jr_aload_1 C d_law_505 ?_
      refine jr_aload_0 C d_law_506 ?_
      refine jr_iload_4 C d_law_507 ?_
      refine jr_iconst (v := nI 1) C d_law_509 (by decide) ?_
      refine jr_iaddN C d_law_510 ?_
      refine jr_sld C hX hbl hbA (by omega) (by omega) d_law_511 ?_
      refine jr_aload_0 C d_law_512 ?_
      refine jr_iload_4 C d_law_513 ?_
      refine jr_iconst (v := nI 2) C d_law_515 (by decide) ?_
      refine jr_iaddN C d_law_516 ?_
      refine jr_sld C hX hbl hbA (by omega) (by omega) d_law_517 ?_
      refine jr_aload_0 C d_law_518 ?_
      refine jr_iload_4 C d_law_519 ?_
      refine jr_iconst (v := nI 3) C d_law_521 (by decide) ?_
      refine jr_iaddN C d_law_522 ?_
      refine jr_sld C hX hbl hbA (by omega) (by omega) d_law_523 ?_
      refine jL_X_band C (cX_band l D q k σ a hx _ _ _) ⟨Nat.le_of_ble_eq_true rfl, Nat.le_of_ble_eq_true rfl⟩ (Nat.le_of_ble_eq_true rfl) d_law_524 (fun r1 σ1 g1 => ?_)
      refine jr_aload_2 C d_law_527 ?_
      refine jr_aload_0 C d_law_528 ?_
      refine jr_iload_4 C d_law_529 ?_
      refine jr_iconst (v := nI 1) C d_law_531 (by decide) ?_
      refine jr_iaddN C d_law_532 ?_
      refine jr_sld C hX hbl hbA (by omega) (by omega) d_law_533 ?_
      refine jr_aload_0 C d_law_534 ?_
      refine jr_iload_4 C d_law_535 ?_
      refine jr_iconst (v := nI 2) C d_law_537 (by decide) ?_
      refine jr_iaddN C d_law_538 ?_
      refine jr_sld C hX hbl hbA (by omega) (by omega) d_law_539 ?_
      refine jr_aload_0 C d_law_540 ?_
      refine jr_iload_4 C d_law_541 ?_
      refine jr_iconst (v := nI 3) C d_law_543 (by decide) ?_
      refine jr_iaddN C d_law_544 ?_
      refine jr_sld C hX hbl hbA (by omega) (by omega) d_law_545 ?_
      refine jL_M_band C (cM_band l D q2 k2 τ a R hw hm _ _ _) ⟨Nat.le_of_ble_eq_true rfl, Nat.le_of_ble_eq_true rfl⟩ (Nat.le_of_ble_eq_true rfl) d_law_546 (fun r2 τ1 g2 => ?_)
      refine jr_icmp_eq (tgt := 683) C d_law_549 (by decide) (fun e => ?_) (fun e => ?_)
      · exact next0 a R σ1 τ1 f z5 z6 z7 hw g1.2 g2.2
      · exact absurd (by rw [g1.1, g2.1]) e
    · refine jr_tin (off := 515) (tgt := 554) C d_law_39 (by decide) (by decide) (by decide) (by decide) ?_
      refine jr_aload_1 C d_law_554 ?_
      refine jr_aload_0 C d_law_555 ?_
      refine jr_iload_4 C d_law_556 ?_
      refine jr_iconst (v := nI 1) C d_law_558 (by decide) ?_
      refine jr_iaddN C d_law_559 ?_
      refine jr_sld C hX hbl hbA (by omega) (by omega) d_law_560 ?_
      refine jr_aload_0 C d_law_561 ?_
      refine jr_iload_4 C d_law_562 ?_
      refine jr_iconst (v := nI 2) C d_law_564 (by decide) ?_
      refine jr_iaddN C d_law_565 ?_
      refine jr_sld C hX hbl hbA (by omega) (by omega) d_law_566 ?_
      refine jr_aload_0 C d_law_567 ?_
      refine jr_iload_4 C d_law_568 ?_
      refine jr_iconst (v := nI 3) C d_law_570 (by decide) ?_
      refine jr_iaddN C d_law_571 ?_
      refine jr_sld C hX hbl hbA (by omega) (by omega) d_law_572 ?_
      refine jr_aload_3 C d_law_573 ?_
      refine jL_L_share C hE (cL_share l D q k qo co σ f a hlt hx _ _ _ sa) ⟨Nat.le_of_ble_eq_true rfl, Nat.le_of_ble_eq_true rfl⟩ (by show 17 + n + 1 ≤ 1042; omega) (by show 5616 + 6 * n + 6 ≤ 13814; omega) (Nat.le_of_ble_eq_true rfl) d_law_574 (fun r1 u1 g1 => ?_)
      have C : fx_C (fx_up (xl_M p l e s m b below meth c D (17 + n) (5616 + 6 * n)) 1 6) l room_1 D cl_s (ty_L k k2 co) code (k_X_init :: tb_l) R_L := CC (n + 1) (by omega)
      obtain ⟨σ1, f1⟩ := u1
      refine jr_istore_5 C d_law_577 rfl ?_
      refine jr_aload_2 C d_law_579 ?_
      refine jr_aload_0 C d_law_580 ?_
      refine jr_iload_4 C d_law_581 ?_
      refine jr_iconst (v := nI 1) C d_law_583 (by decide) ?_
      refine jr_iaddN C d_law_584 ?_
      refine jr_sld C hX hbl hbA (by omega) (by omega) d_law_585 ?_
      refine jr_aload_0 C d_law_586 ?_
      refine jr_iload_4 C d_law_587 ?_
      refine jr_iconst (v := nI 2) C d_law_589 (by decide) ?_
      refine jr_iaddN C d_law_590 ?_
      refine jr_sld C hX hbl hbA (by omega) (by omega) d_law_591 ?_
      refine jr_aload_0 C d_law_592 ?_
      refine jr_iload_4 C d_law_593 ?_
      refine jr_iconst (v := nI 3) C d_law_595 (by decide) ?_
      refine jr_iaddN C d_law_596 ?_
      refine jr_sld C hX hbl hbA (by omega) (by omega) d_law_597 ?_
      refine jL_M_share C (cM_share l D q2 k2 τ a R hw hm _ _ _) ⟨Nat.le_of_ble_eq_true rfl, Nat.le_of_ble_eq_true rfl⟩ (Nat.le_of_ble_eq_true rfl) d_law_598 (fun r2 τ1 g2 => ?_)
      refine jr_lstore_6 C d_law_601 rfl ?_
      refine jr_aload_2 C d_law_603 ?_
      refine jL_M_thrown C (cM_thrown l D q2 k2 τ1) ⟨Nat.le_of_ble_eq_true rfl, Nat.le_of_ble_eq_true rfl⟩ (Nat.le_of_ble_eq_true rfl) d_law_604 (fx_p (fun r3 g3 => ?_))
      rw [g3]
      obtain ⟨g1a, g1b⟩ := g1
      obtain ⟨g2a, g2b⟩ := g2
      rcases g1b with ⟨rfl, g1c⟩ | ⟨rfl, g1c⟩
      · rw [g1c] at g2a
        obtain ⟨g4, g5⟩ := g2a
        rw [g5]
        refine jr_iload_5 C d_law_607 ?_
        refine jr_icmp_eq (tgt := 614) C d_law_609 (by decide) (fun e => ?_) (fun e => ?_)
        · refine jr_iload_5 C d_law_614 ?_
          refine jr_if_ne (tgt := 630) C d_law_616 (by decide) (fun e1 => ?_) (fun e1 => ?_)
          · exact absurd nI_0 e1
          · refine jr_aload_3 C d_law_619 ?_
            refine jr_iconst (v := nI 0) C d_law_620 (by decide) ?_
            refine jr_lald C 16 14 rfl rfl (by decide) (by decide) d_law_621 ?_
            refine jr_lload_6 C d_law_622 ?_
            refine jr_lcmp C d_law_624 ?_
            refine jr_if_eq (tgt := 630) C d_law_625 (by decide) (fun e2 => ?_) (fun e2 => ?_)
            · refine jr_goto (tgt := 683) C d_law_630 (by decide) ?_
              exact next1 a R σ1 τ1 f1 _ _ _ hw g1a g2b
            · exact absurd ((lg_cmp_eq _ _).mpr g4.symm) e2
        · exact absurd rfl e
      · rw [g1c] at g2a
        have g5 : m_thr τ1 = nI 1 := g2a
        rw [g5]
        refine jr_iload_5 C d_law_607 ?_
        refine jr_icmp_eq (tgt := 614) C d_law_609 (by decide) (fun e => ?_) (fun e => ?_)
        · refine jr_iload_5 C d_law_614 ?_
          refine jr_if_ne (tgt := 630) C d_law_616 (by decide) (fun e1 => ?_) (fun e1 => ?_)
          · refine jr_goto (tgt := 683) C d_law_630 (by decide) ?_
            exact next1 a R σ1 τ1 f1 _ _ _ hw g1a g2b
          · exact absurd e1 (by decide)
        · exact absurd rfl e
    · refine jr_tin (off := 594) (tgt := 633) C d_law_39 (by decide) (by decide) (by decide) (by decide) ?_
      refine jr_aload_1 C d_law_633 ?_
      refine jr_aload_0 C d_law_634 ?_
      refine jr_iload_4 C d_law_635 ?_
      refine jr_iconst (v := nI 1) C d_law_637 (by decide) ?_
      refine jr_iaddN C d_law_638 ?_
      refine jr_sld C hX hbl hbA (by omega) (by omega) d_law_639 ?_
      refine jL_X_missing C (cX_missing l D q k σ a hx _) ⟨Nat.le_of_ble_eq_true rfl, Nat.le_of_ble_eq_true rfl⟩ (Nat.le_of_ble_eq_true rfl) d_law_640 (fun r1 σ1 g1 => ?_)
      refine jr_aload_2 C d_law_643 ?_
      refine jr_aload_0 C d_law_644 ?_
      refine jr_iload_4 C d_law_645 ?_
      refine jr_iconst (v := nI 1) C d_law_647 (by decide) ?_
      refine jr_iaddN C d_law_648 ?_
      refine jr_sld C hX hbl hbA (by omega) (by omega) d_law_649 ?_
      refine jL_M_missing C (cM_missing l D q2 k2 τ a R hw hm _) ⟨Nat.le_of_ble_eq_true rfl, Nat.le_of_ble_eq_true rfl⟩ (Nat.le_of_ble_eq_true rfl) d_law_650 (fun r2 τ1 g2 => ?_)
      refine jr_icmp_eq (tgt := 683) C d_law_653 (by decide) (fun e => ?_) (fun e => ?_)
      · exact next0 a R σ1 τ1 f z5 z6 z7 hw g1.2 g2.2
      · exact absurd (by rw [g1.1, g2.1]) e
    · refine jr_tin (off := 619) (tgt := 658) C d_law_39 (by decide) (by decide) (by decide) (by decide) ?_
      refine jr_aload_1 C d_law_658 ?_
      refine jr_aload_0 C d_law_659 ?_
      refine jr_iload_4 C d_law_660 ?_
      refine jr_iconst (v := nI 1) C d_law_662 (by decide) ?_
      refine jr_iaddN C d_law_663 ?_
      refine jr_sld C hX hbl hbA (by omega) (by omega) d_law_664 ?_
      refine jL_X_left C (cX_left l D q k σ a hw hx _) ⟨Nat.le_of_ble_eq_true rfl, Nat.le_of_ble_eq_true rfl⟩ (Nat.le_of_ble_eq_true rfl) d_law_665 (fun r1 σ1 g1 => ?_)
      refine jr_aload_2 C d_law_668 ?_
      refine jr_aload_0 C d_law_669 ?_
      refine jr_iload_4 C d_law_670 ?_
      refine jr_iconst (v := nI 1) C d_law_672 (by decide) ?_
      refine jr_iaddN C d_law_673 ?_
      refine jr_sld C hX hbl hbA (by omega) (by omega) d_law_674 ?_
      refine jL_M_left C (cM_left l D q2 k2 τ a R hw hm _) ⟨Nat.le_of_ble_eq_true rfl, Nat.le_of_ble_eq_true rfl⟩ (Nat.le_of_ble_eq_true rfl) d_law_675 (fun r2 τ1 g2 => ?_)
      refine jr_icmp_eq (tgt := 683) C d_law_678 (by decide) (fun e => ?_) (fun e => ?_)
      · exact next0 a R σ1 τ1 f z5 z6 z7 hw g1.2 g2.2
      · exact absurd (fn_left g1.1 g2.1) e
    · refine jr_tout (tgt := 683) C d_law_39 (Or.inr (by rw [nI_toInt (by omega)]; omega)) (by decide) ?_
      exact next0 a R σ τ f z5 z6 z7 hw hx hm
end
