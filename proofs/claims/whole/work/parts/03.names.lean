/-! names, by program out of the Statement and the listing -/
def R_X : String := "ForkedSheets"
def R_M : String := "ForkedSheets$Memory"
def R_T : String := "ForkedSheetsModel"
def R_L : String := "ForkedSheetsLaw"
def R_A : String := "java/util/Arrays"
def R_Es : String := "java/lang/IllegalStateException"
def R_Ei : String := "java/lang/IndexOutOfBoundsException"
def R_En : String := "java/util/NoSuchElementException"
def F_X : u_T := fun k => match k with
  | 0 => ("ForkedSheets", "there", "[Z", true)
  | 1 => ("ForkedSheets", "sheets", "[[I", true)
  | 2 => ("ForkedSheets", "memory", "LForkedSheets$Memory;", true)
  | _ => ("ForkedSheets", "wordsCopied", "I", false)
def ty_X : Nat → FieldType := fun k => match k with
  | 0 => .array .boolean
  | 1 => .array (.array .int)
  | 2 => .object "ForkedSheets$Memory"
  | _ => .int
theorem n_X : ∀ a, a < 4 → ∀ b, b < 4 → a ≠ b → (F_X a).2.1 ≠ (F_X b).2.1 := by decide +kernel
theorem ty_X_ok : ∀ k, k < 4 → parseFieldDescriptor (F_X k).2.2.1 = some (ty_X k) := by decide +kernel
theorem in_X : ∀ w ∈ u_ws R_X F_X 4, w ∈ lw_tbl := by decide +kernel
def F_M : u_T := fun k => match k with
  | 0 => ("ForkedSheets$Memory", "inFrame", "[I", true)
  | 1 => ("ForkedSheets$Memory", "inSlot", "[I", true)
  | 2 => ("ForkedSheets$Memory", "marks", "[Z", true)
  | 3 => ("ForkedSheets$Memory", "places", "[I", true)
  | 4 => ("ForkedSheets$Memory", "pageCounts", "[I", true)
  | 5 => ("ForkedSheets$Memory", "words", "[[I", true)
  | 6 => ("ForkedSheets$Memory", "handAt", "I", false)
  | 7 => ("ForkedSheets$Memory", "faultCount", "I", false)
  | _ => ("ForkedSheets$Memory", "evictedCount", "I", false)
def ty_M : Nat → FieldType := fun k => match k with
  | 0 => .array .int
  | 1 => .array .int
  | 2 => .array .boolean
  | 3 => .array .int
  | 4 => .array .int
  | 5 => .array (.array .int)
  | 6 => .int
  | 7 => .int
  | _ => .int
theorem n_M : ∀ a, a < 9 → ∀ b, b < 9 → a ≠ b → (F_M a).2.1 ≠ (F_M b).2.1 := by decide +kernel
theorem ty_M_ok : ∀ k, k < 9 → parseFieldDescriptor (F_M k).2.2.1 = some (ty_M k) := by decide +kernel
theorem in_M : ∀ w ∈ u_ws R_M F_M 9, w ∈ lw_tbl := by decide +kernel
def F_T : u_T := fun k => match k with
  | 0 => ("ForkedSheetsModel", "thrown", "I", false)
  | 1 => ("ForkedSheetsModel", "frames", "I", true)
  | 2 => ("ForkedSheetsModel", "slots", "I", true)
  | 3 => ("ForkedSheetsModel", "marks", "[Z", true)
  | 4 => ("ForkedSheetsModel", "hand", "I", false)
  | 5 => ("ForkedSheetsModel", "lies", "[I", true)
  | 6 => ("ForkedSheetsModel", "words", "[I", true)
  | 7 => ("ForkedSheetsModel", "there", "[Z", true)
  | 8 => ("ForkedSheetsModel", "pages", "[I", true)
  | 9 => ("ForkedSheetsModel", "faults", "I", false)
  | 10 => ("ForkedSheetsModel", "evictions", "I", false)
  | _ => ("ForkedSheetsModel", "copies", "I", false)
def ty_T : Nat → FieldType := fun k => match k with
  | 0 => .int
  | 1 => .int
  | 2 => .int
  | 3 => .array .boolean
  | 4 => .int
  | 5 => .array .int
  | 6 => .array .int
  | 7 => .array .boolean
  | 8 => .array .int
  | 9 => .int
  | 10 => .int
  | _ => .int
theorem n_T : ∀ a, a < 12 → ∀ b, b < 12 → a ≠ b → (F_T a).2.1 ≠ (F_T b).2.1 := by decide +kernel
theorem ty_T_ok : ∀ k, k < 12 → parseFieldDescriptor (F_T k).2.2.1 = some (ty_T k) := by decide +kernel
theorem in_T : ∀ w ∈ u_ws R_T F_T 12, w ∈ lw_tbl := by decide +kernel
abbrev vcl : List vw_C := [(R_X, F_X, 4), (R_M, F_M, 9), (R_T, F_T, 12)]
abbrev b_X_init : ByteArray := prog_1_method_1_code
def y_X_init : MethodName := ⟨R_X, "<init>", "(II)V"⟩
abbrev w_X_init : Cond := Cond.code y_X_init b_X_init 4 none
abbrev b_M_init : ByteArray := prog_2_method_1_code
def y_M_init : MethodName := ⟨R_M, "<init>", "(II)V"⟩
abbrev w_M_init : Cond := Cond.code y_M_init b_M_init 3 none
abbrev b_X_freeRow : ByteArray := prog_1_method_30_code
def y_X_freeRow : MethodName := ⟨R_X, "freeRow", "(I)[I"⟩
abbrev w_X_freeRow : Cond := Cond.code y_X_freeRow b_X_freeRow 2 (some (.array .int))
abbrev b_A_fill : ByteArray := prog_13_method_103_code
def y_A_fill : MethodName := ⟨R_A, "fill", "([II)V"⟩
abbrev w_A_fill : Cond := Cond.code y_A_fill b_A_fill 4 none
abbrev b_X_copied : ByteArray := prog_1_method_9_code
def y_X_copied : MethodName := ⟨R_X, "copied", "()I"⟩
abbrev w_X_copied : Cond := Cond.code y_X_copied b_X_copied 1 (some .int)
abbrev b_X_where : ByteArray := prog_1_method_10_code
def y_X_where : MethodName := ⟨R_X, "where", "(II)I"⟩
abbrev w_X_where : Cond := Cond.code y_X_where b_X_where 4 (some .int)
abbrev b_X_sheetOf : ByteArray := prog_1_method_23_code
def y_X_sheetOf : MethodName := ⟨R_X, "sheetOf", "(II)I"⟩
abbrev w_X_sheetOf : Cond := Cond.code y_X_sheetOf b_X_sheetOf 3 (some .int)
abbrev b_X_isThere : ByteArray := prog_1_method_12_code
def y_X_isThere : MethodName := ⟨R_X, "isThere", "(I)Z"⟩
abbrev w_X_isThere : Cond := Cond.code y_X_isThere b_X_isThere 2 (some .boolean)
abbrev b_M_placeOf : ByteArray := prog_2_method_2_code
def y_M_placeOf : MethodName := ⟨R_M, "placeOf", "(I)I"⟩
abbrev w_M_placeOf : Cond := Cond.code y_M_placeOf b_M_placeOf 2 (some .int)
abbrev b_X_sharers : ByteArray := prog_1_method_11_code
def y_X_sharers : MethodName := ⟨R_X, "sharers", "(II)I"⟩
abbrev w_X_sharers : Cond := Cond.code y_X_sharers b_X_sharers 4 (some .int)
abbrev b_M_pagesOf : ByteArray := prog_2_method_3_code
def y_M_pagesOf : MethodName := ⟨R_M, "pagesOf", "(I)I"⟩
abbrev w_M_pagesOf : Cond := Cond.code y_M_pagesOf b_M_pagesOf 2 (some .int)
abbrev b_X_marked : ByteArray := prog_1_method_13_code
def y_X_marked : MethodName := ⟨R_X, "marked", "(I)Z"⟩
abbrev w_X_marked : Cond := Cond.code y_X_marked b_X_marked 2 (some .boolean)
abbrev b_M_hasMark : ByteArray := prog_2_method_4_code
def y_M_hasMark : MethodName := ⟨R_M, "hasMark", "(I)Z"⟩
abbrev w_M_hasMark : Cond := Cond.code y_M_hasMark b_M_hasMark 2 (some .boolean)
abbrev b_X_hand : ByteArray := prog_1_method_14_code
def y_X_hand : MethodName := ⟨R_X, "hand", "()I"⟩
abbrev w_X_hand : Cond := Cond.code y_X_hand b_X_hand 1 (some .int)
abbrev b_X_freeFrames : ByteArray := prog_1_method_15_code
def y_X_freeFrames : MethodName := ⟨R_X, "freeFrames", "()I"⟩
abbrev w_X_freeFrames : Cond := Cond.code y_X_freeFrames b_X_freeFrames 1 (some .int)
abbrev b_X_countFree : ByteArray := prog_1_method_29_code
def y_X_countFree : MethodName := ⟨R_X, "countFree", "([I)I"⟩
abbrev w_X_countFree : Cond := Cond.code y_X_countFree b_X_countFree 3 (some .int)
abbrev b_X_freeSlots : ByteArray := prog_1_method_16_code
def y_X_freeSlots : MethodName := ⟨R_X, "freeSlots", "()I"⟩
abbrev w_X_freeSlots : Cond := Cond.code y_X_freeSlots b_X_freeSlots 1 (some .int)
abbrev b_X_faults : ByteArray := prog_1_method_17_code
def y_X_faults : MethodName := ⟨R_X, "faults", "()I"⟩
abbrev w_X_faults : Cond := Cond.code y_X_faults b_X_faults 1 (some .int)
abbrev b_X_evicted : ByteArray := prog_1_method_18_code
def y_X_evicted : MethodName := ⟨R_X, "evicted", "()I"⟩
abbrev w_X_evicted : Cond := Cond.code y_X_evicted b_X_evicted 1 (some .int)
abbrev b_L_cell : ByteArray := method_2_code
def y_L_cell : MethodName := ⟨R_L, "cell", "([II)I"⟩
abbrev w_L_cell : Cond := Cond.code y_L_cell b_L_cell 2 (some .int)
abbrev b_L_spawn : ByteArray := method_3_code
def y_L_spawn : MethodName := ⟨R_L, "spawn", "(LForkedSheets;[J)I"⟩
abbrev w_L_spawn : Cond := Cond.codeWith y_L_spawn b_L_spawn 3 (some .int) [(0, 8, 11, 13)]
abbrev b_X_spawn : ByteArray := prog_1_method_2_code
def y_X_spawn : MethodName := ⟨R_X, "spawn", "()I"⟩
abbrev w_X_spawn : Cond := Cond.code y_X_spawn b_X_spawn 2 (some .int)
abbrev b_X_lowestNotThere : ByteArray := prog_1_method_22_code
def y_X_lowestNotThere : MethodName := ⟨R_X, "lowestNotThere", "()I"⟩
abbrev w_X_lowestNotThere : Cond := Cond.code y_X_lowestNotThere b_X_lowestNotThere 2 (some .int)
abbrev b_L_fork : ByteArray := method_4_code
def y_L_fork : MethodName := ⟨R_L, "fork", "(LForkedSheets;I[J)I"⟩
abbrev w_L_fork : Cond := Cond.codeWith y_L_fork b_L_fork 4 (some .int) [(0, 9, 12, 19), (0, 9, 15, 13)]
abbrev b_X_fork : ByteArray := prog_1_method_3_code
def y_X_fork : MethodName := ⟨R_X, "fork", "(I)I"⟩
abbrev w_X_fork : Cond := Cond.code y_X_fork b_X_fork 5 (some .int)
abbrev b_X_requireProcess : ByteArray := prog_1_method_19_code
def y_X_requireProcess : MethodName := ⟨R_X, "requireProcess", "(I)V"⟩
abbrev w_X_requireProcess : Cond := Cond.code y_X_requireProcess b_X_requireProcess 2 none
abbrev b_M_join : ByteArray := prog_2_method_9_code
def y_M_join : MethodName := ⟨R_M, "join", "(I)V"⟩
abbrev w_M_join : Cond := Cond.code y_M_join b_M_join 2 none
abbrev b_L_exit : ByteArray := method_5_code
def y_L_exit : MethodName := ⟨R_L, "exit", "(LForkedSheets;I[J)I"⟩
abbrev w_L_exit : Cond := Cond.codeWith y_L_exit b_L_exit 4 (some .int) [(0, 9, 12, 19)]
abbrev b_X_exit : ByteArray := prog_1_method_4_code
def y_X_exit : MethodName := ⟨R_X, "exit", "(I)I"⟩
abbrev w_X_exit : Cond := Cond.code y_X_exit b_X_exit 4 (some .int)
abbrev b_X_emptyPage : ByteArray := prog_1_method_24_code
def y_X_emptyPage : MethodName := ⟨R_X, "emptyPage", "(II)Z"⟩
abbrev w_X_emptyPage : Cond := Cond.code y_X_emptyPage b_X_emptyPage 4 (some .boolean)
abbrev b_M_leave : ByteArray := prog_2_method_10_code
def y_M_leave : MethodName := ⟨R_M, "leave", "(I)Z"⟩
abbrev w_M_leave : Cond := Cond.code y_M_leave b_M_leave 2 (some .boolean)
abbrev b_M_freePlace : ByteArray := prog_2_method_14_code
def y_M_freePlace : MethodName := ⟨R_M, "freePlace", "(I)V"⟩
abbrev w_M_freePlace : Cond := Cond.code y_M_freePlace b_M_freePlace 2 none
abbrev b_L_drop : ByteArray := method_6_code
def y_L_drop : MethodName := ⟨R_L, "drop", "(LForkedSheets;II[J)I"⟩
abbrev w_L_drop : Cond := Cond.codeWith y_L_drop b_L_drop 5 (some .int) [(0, 17, 20, 19), (0, 17, 24, 28)]
abbrev b_X_drop : ByteArray := prog_1_method_5_code
def y_X_drop : MethodName := ⟨R_X, "drop", "(II)Z"⟩
abbrev w_X_drop : Cond := Cond.code y_X_drop b_X_drop 3 (some .boolean)
abbrev b_L_load : ByteArray := method_7_code
def y_L_load : MethodName := ⟨R_L, "load", "(LForkedSheets;II[J)I"⟩
abbrev w_L_load : Cond := Cond.codeWith y_L_load b_L_load 5 (some .int) [(0, 10, 13, 19), (0, 10, 17, 28)]
abbrev b_X_load : ByteArray := prog_1_method_6_code
def y_X_load : MethodName := ⟨R_X, "load", "(II)I"⟩
abbrev w_X_load : Cond := Cond.code y_X_load b_X_load 3 (some .int)
abbrev b_X_requireAddress : ByteArray := prog_1_method_20_code
def y_X_requireAddress : MethodName := ⟨R_X, "requireAddress", "(I)V"⟩
abbrev w_X_requireAddress : Cond := Cond.code y_X_requireAddress b_X_requireAddress 1 none
abbrev b_X_loadWord : ByteArray := prog_1_method_25_code
def y_X_loadWord : MethodName := ⟨R_X, "loadWord", "(II)I"⟩
abbrev w_X_loadWord : Cond := Cond.code y_X_loadWord b_X_loadWord 4 (some .int)
abbrev b_M_read : ByteArray := prog_2_method_5_code
def y_M_read : MethodName := ⟨R_M, "read", "(II)I"⟩
abbrev w_M_read : Cond := Cond.code y_M_read b_M_read 3 (some .int)
abbrev b_M_touch : ByteArray := prog_2_method_11_code
def y_M_touch : MethodName := ⟨R_M, "touch", "(I)V"⟩
abbrev w_M_touch : Cond := Cond.code y_M_touch b_M_touch 2 none
abbrev b_M_bringIn : ByteArray := prog_2_method_12_code
def y_M_bringIn : MethodName := ⟨R_M, "bringIn", "(I)V"⟩
abbrev w_M_bringIn : Cond := Cond.code y_M_bringIn b_M_bringIn 2 none
abbrev b_M_getFrame : ByteArray := prog_2_method_15_code
def y_M_getFrame : MethodName := ⟨R_M, "getFrame", "()I"⟩
abbrev w_M_getFrame : Cond := Cond.code y_M_getFrame b_M_getFrame 3 (some .int)
abbrev b_X_lowestFree : ByteArray := prog_1_method_28_code
def y_X_lowestFree : MethodName := ⟨R_X, "lowestFree", "([I)I"⟩
abbrev w_X_lowestFree : Cond := Cond.code y_X_lowestFree b_X_lowestFree 2 (some .int)
abbrev b_M_evictInto : ByteArray := prog_2_method_16_code
def y_M_evictInto : MethodName := ⟨R_M, "evictInto", "(I)I"⟩
abbrev w_M_evictInto : Cond := Cond.code y_M_evictInto b_M_evictInto 4 (some .int)
abbrev b_M_moveHand : ByteArray := prog_2_method_17_code
def y_M_moveHand : MethodName := ⟨R_M, "moveHand", "()V"⟩
abbrev w_M_moveHand : Cond := Cond.code y_M_moveHand b_M_moveHand 1 none
abbrev b_M_layIntoFrame : ByteArray := prog_2_method_13_code
def y_M_layIntoFrame : MethodName := ⟨R_M, "layIntoFrame", "(II)V"⟩
abbrev w_M_layIntoFrame : Cond := Cond.code y_M_layIntoFrame b_M_layIntoFrame 3 none
abbrev b_L_store : ByteArray := method_8_code
def y_L_store : MethodName := ⟨R_L, "store", "(LForkedSheets;III)I"⟩
abbrev w_L_store : Cond := Cond.codeWith y_L_store b_L_store 5 (some .int) [(0, 7, 10, 19), (0, 7, 14, 28), (0, 7, 18, 13)]
abbrev b_X_store : ByteArray := prog_1_method_7_code
def y_X_store : MethodName := ⟨R_X, "store", "(III)V"⟩
abbrev w_X_store : Cond := Cond.code y_X_store b_X_store 4 none
abbrev b_X_storeWord : ByteArray := prog_1_method_26_code
def y_X_storeWord : MethodName := ⟨R_X, "storeWord", "(III)V"⟩
abbrev w_X_storeWord : Cond := Cond.code y_X_storeWord b_X_storeWord 6 none
abbrev b_X_giveOwnSheet : ByteArray := prog_1_method_27_code
def y_X_giveOwnSheet : MethodName := ⟨R_X, "giveOwnSheet", "(II)I"⟩
abbrev w_X_giveOwnSheet : Cond := Cond.code y_X_giveOwnSheet b_X_giveOwnSheet 5 (some .int)
abbrev b_M_make : ByteArray := prog_2_method_8_code
def y_M_make : MethodName := ⟨R_M, "make", "()I"⟩
abbrev w_M_make : Cond := Cond.code y_M_make b_M_make 3 (some .int)
abbrev b_M_copyWords : ByteArray := prog_2_method_7_code
def y_M_copyWords : MethodName := ⟨R_M, "copyWords", "(II)V"⟩
abbrev w_M_copyWords : Cond := Cond.code y_M_copyWords b_M_copyWords 3 none
abbrev b_M_write : ByteArray := prog_2_method_6_code
def y_M_write : MethodName := ⟨R_M, "write", "(III)V"⟩
abbrev w_M_write : Cond := Cond.code y_M_write b_M_write 4 none
abbrev b_L_copy : ByteArray := method_9_code
def y_L_copy : MethodName := ⟨R_L, "copy", "(LForkedSheets;IIII)I"⟩
abbrev w_L_copy : Cond := Cond.codeWith y_L_copy b_L_copy 6 (some .int) [(0, 9, 12, 19), (0, 9, 16, 28), (0, 9, 20, 13)]
abbrev b_X_copy : ByteArray := prog_1_method_8_code
def y_X_copy : MethodName := ⟨R_X, "copy", "(IIII)V"⟩
abbrev w_X_copy : Cond := Cond.code y_X_copy b_X_copy 6 none
abbrev b_X_requireRange : ByteArray := prog_1_method_21_code
def y_X_requireRange : MethodName := ⟨R_X, "requireRange", "(II)V"⟩
abbrev w_X_requireRange : Cond := Cond.code y_X_requireRange b_X_requireRange 2 none
abbrev b_T_init : ByteArray := prog_4_method_1_code
def y_T_init : MethodName := ⟨R_T, "<init>", "(II)V"⟩
abbrev w_T_init : Cond := Cond.code y_T_init b_T_init 4 none
abbrev b_T_thrown : ByteArray := prog_4_method_2_code
def y_T_thrown : MethodName := ⟨R_T, "thrown", "()I"⟩
abbrev w_T_thrown : Cond := Cond.code y_T_thrown b_T_thrown 1 (some .int)
abbrev b_T_spawn : ByteArray := prog_4_method_15_code
def y_T_spawn : MethodName := ⟨R_T, "spawn", "()I"⟩
abbrev w_T_spawn : Cond := Cond.code y_T_spawn b_T_spawn 2 (some .int)
abbrev b_T_lowestProcess : ByteArray := prog_4_method_14_code
def y_T_lowestProcess : MethodName := ⟨R_T, "lowestProcess", "()I"⟩
abbrev w_T_lowestProcess : Cond := Cond.code y_T_lowestProcess b_T_lowestProcess 2 (some .int)
abbrev b_T_fork : ByteArray := prog_4_method_16_code
def y_T_fork : MethodName := ⟨R_T, "fork", "(I)I"⟩
abbrev w_T_fork : Cond := Cond.code y_T_fork b_T_fork 4 (some .int)
abbrev b_T_isProcess : ByteArray := prog_4_method_13_code
def y_T_isProcess : MethodName := ⟨R_T, "isProcess", "(I)Z"⟩
abbrev w_T_isProcess : Cond := Cond.code y_T_isProcess b_T_isProcess 2 (some .boolean)
abbrev b_T_exit : ByteArray := prog_4_method_17_code
def y_T_exit : MethodName := ⟨R_T, "exit", "(I)I"⟩
abbrev w_T_exit : Cond := Cond.code y_T_exit b_T_exit 4 (some .int)
abbrev b_T_empty : ByteArray := prog_4_method_12_code
def y_T_empty : MethodName := ⟨R_T, "empty", "(I)Z"⟩
abbrev w_T_empty : Cond := Cond.code y_T_empty b_T_empty 3 (some .boolean)
abbrev b_T_owners : ByteArray := prog_4_method_6_code
def y_T_owners : MethodName := ⟨R_T, "owners", "(I)I"⟩
abbrev w_T_owners : Cond := Cond.code y_T_owners b_T_owners 4 (some .int)
abbrev b_T_drop : ByteArray := prog_4_method_18_code
def y_T_drop : MethodName := ⟨R_T, "drop", "(II)Z"⟩
abbrev w_T_drop : Cond := Cond.code y_T_drop b_T_drop 3 (some .boolean)
abbrev b_T_load : ByteArray := prog_4_method_23_code
def y_T_load : MethodName := ⟨R_T, "load", "(II)I"⟩
abbrev w_T_load : Cond := Cond.code y_T_load b_T_load 3 (some .int)
abbrev b_T_isAddress : ByteArray := prog_4_method_19_code
def y_T_isAddress : MethodName := ⟨R_T, "isAddress", "(I)Z"⟩
abbrev w_T_isAddress : Cond := Cond.code y_T_isAddress b_T_isAddress 1 (some .boolean)
abbrev b_T_loaded : ByteArray := prog_4_method_20_code
def y_T_loaded : MethodName := ⟨R_T, "loaded", "(II)I"⟩
abbrev w_T_loaded : Cond := Cond.code y_T_loaded b_T_loaded 4 (some .int)
abbrev b_T_bringIn : ByteArray := prog_4_method_11_code
def y_T_bringIn : MethodName := ⟨R_T, "bringIn", "(I)V"⟩
abbrev w_T_bringIn : Cond := Cond.code y_T_bringIn b_T_bringIn 3 none
abbrev b_T_getFrame : ByteArray := prog_4_method_8_code
def y_T_getFrame : MethodName := ⟨R_T, "getFrame", "()I"⟩
abbrev w_T_getFrame : Cond := Cond.code y_T_getFrame b_T_getFrame 4 (some .int)
abbrev b_T_lowestFrame : ByteArray := prog_4_method_4_code
def y_T_lowestFrame : MethodName := ⟨R_T, "lowestFrame", "()I"⟩
abbrev w_T_lowestFrame : Cond := Cond.code y_T_lowestFrame b_T_lowestFrame 2 (some .int)
abbrev b_T_sheetAt : ByteArray := prog_4_method_3_code
def y_T_sheetAt : MethodName := ⟨R_T, "sheetAt", "(I)I"⟩
abbrev w_T_sheetAt : Cond := Cond.code y_T_sheetAt b_T_sheetAt 3 (some .int)
abbrev b_T_turn : ByteArray := prog_4_method_7_code
def y_T_turn : MethodName := ⟨R_T, "turn", "()V"⟩
abbrev w_T_turn : Cond := Cond.code y_T_turn b_T_turn 1 none
abbrev b_T_lowestSlot : ByteArray := prog_4_method_5_code
def y_T_lowestSlot : MethodName := ⟨R_T, "lowestSlot", "()I"⟩
abbrev w_T_lowestSlot : Cond := Cond.code y_T_lowestSlot b_T_lowestSlot 2 (some .int)
abbrev b_T_store : ByteArray := prog_4_method_24_code
def y_T_store : MethodName := ⟨R_T, "store", "(III)V"⟩
abbrev w_T_store : Cond := Cond.code y_T_store b_T_store 4 none
abbrev b_T_needs : ByteArray := prog_4_method_21_code
def y_T_needs : MethodName := ⟨R_T, "needs", "(II)Z"⟩
abbrev w_T_needs : Cond := Cond.code y_T_needs b_T_needs 4 (some .boolean)
abbrev b_T_canMake : ByteArray := prog_4_method_9_code
def y_T_canMake : MethodName := ⟨R_T, "canMake", "()Z"⟩
abbrev w_T_canMake : Cond := Cond.code y_T_canMake b_T_canMake 1 (some .boolean)
abbrev b_T_stored : ByteArray := prog_4_method_22_code
def y_T_stored : MethodName := ⟨R_T, "stored", "(III)V"⟩
abbrev w_T_stored : Cond := Cond.code y_T_stored b_T_stored 6 none
abbrev b_T_make : ByteArray := prog_4_method_10_code
def y_T_make : MethodName := ⟨R_T, "make", "(II)V"⟩
abbrev w_T_make : Cond := Cond.code y_T_make b_T_make 6 none
abbrev b_T_copy : ByteArray := prog_4_method_25_code
def y_T_copy : MethodName := ⟨R_T, "copy", "(IIII)V"⟩
abbrev w_T_copy : Cond := Cond.code y_T_copy b_T_copy 7 none
abbrev b_T_copied : ByteArray := prog_4_method_27_code
def y_T_copied : MethodName := ⟨R_T, "copied", "()I"⟩
abbrev w_T_copied : Cond := Cond.code y_T_copied b_T_copied 1 (some .int)
abbrev b_T_where : ByteArray := prog_4_method_28_code
def y_T_where : MethodName := ⟨R_T, "where", "(II)I"⟩
abbrev w_T_where : Cond := Cond.code y_T_where b_T_where 4 (some .int)
abbrev b_T_sheetOf : ByteArray := prog_4_method_26_code
def y_T_sheetOf : MethodName := ⟨R_T, "sheetOf", "(II)I"⟩
abbrev w_T_sheetOf : Cond := Cond.code y_T_sheetOf b_T_sheetOf 3 (some .int)
abbrev b_T_sharers : ByteArray := prog_4_method_29_code
def y_T_sharers : MethodName := ⟨R_T, "sharers", "(II)I"⟩
abbrev w_T_sharers : Cond := Cond.code y_T_sharers b_T_sharers 4 (some .int)
abbrev b_T_isThere : ByteArray := prog_4_method_30_code
def y_T_isThere : MethodName := ⟨R_T, "isThere", "(I)Z"⟩
abbrev w_T_isThere : Cond := Cond.code y_T_isThere b_T_isThere 2 (some .boolean)
abbrev b_T_marked : ByteArray := prog_4_method_31_code
def y_T_marked : MethodName := ⟨R_T, "marked", "(I)Z"⟩
abbrev w_T_marked : Cond := Cond.code y_T_marked b_T_marked 2 (some .boolean)
abbrev b_T_hand : ByteArray := prog_4_method_32_code
def y_T_hand : MethodName := ⟨R_T, "hand", "()I"⟩
abbrev w_T_hand : Cond := Cond.code y_T_hand b_T_hand 1 (some .int)
abbrev b_T_freeFrames : ByteArray := prog_4_method_33_code
def y_T_freeFrames : MethodName := ⟨R_T, "freeFrames", "()I"⟩
abbrev w_T_freeFrames : Cond := Cond.code y_T_freeFrames b_T_freeFrames 3 (some .int)
abbrev b_T_freeSlots : ByteArray := prog_4_method_34_code
def y_T_freeSlots : MethodName := ⟨R_T, "freeSlots", "()I"⟩
abbrev w_T_freeSlots : Cond := Cond.code y_T_freeSlots b_T_freeSlots 3 (some .int)
abbrev b_T_faults : ByteArray := prog_4_method_35_code
def y_T_faults : MethodName := ⟨R_T, "faults", "()I"⟩
abbrev w_T_faults : Cond := Cond.code y_T_faults b_T_faults 1 (some .int)
abbrev b_T_evicted : ByteArray := prog_4_method_36_code
def y_T_evicted : MethodName := ⟨R_T, "evicted", "()I"⟩
abbrev w_T_evicted : Cond := Cond.code y_T_evicted b_T_evicted 1 (some .int)
theorem kn_L : Cond.initialized R_L ∈ lw_tbl := List.mem_append_right _ (List.mem_of_getElem? (i := 0) (by decide +kernel))
theorem kn_X : Cond.initialized R_X ∈ lw_tbl := List.mem_append_right _ (List.mem_of_getElem? (i := 1) (by decide +kernel))
theorem kn_M : Cond.initialized R_M ∈ lw_tbl := List.mem_append_right _ (List.mem_of_getElem? (i := 2) (by decide +kernel))
theorem kn_J : Cond.initialized "java/lang/Math" ∈ lw_tbl := List.mem_append_right _ (List.mem_of_getElem? (i := 3) (by decide +kernel))
theorem kn_A : Cond.initialized R_A ∈ lw_tbl := List.mem_append_right _ (List.mem_of_getElem? (i := 4) (by decide +kernel))
theorem kn_T : Cond.initialized R_T ∈ lw_tbl := List.mem_append_right _ (List.mem_of_getElem? (i := 5) (by decide +kernel))
theorem kn_Th : Cond.initialized "java/lang/Throwable" ∈ lw_tbl := List.mem_append_right _ (List.mem_of_getElem? (i := 6) (by decide +kernel))
theorem kn_Ex : Cond.initialized "java/lang/Exception" ∈ lw_tbl := List.mem_append_right _ (List.mem_of_getElem? (i := 7) (by decide +kernel))
theorem kn_Er : Cond.initialized "java/lang/RuntimeException" ∈ lw_tbl := List.mem_append_right _ (List.mem_of_getElem? (i := 8) (by decide +kernel))
theorem kn_Es : Cond.initialized "java/lang/IllegalStateException" ∈ lw_tbl := List.mem_append_right _ (List.mem_of_getElem? (i := 9) (by decide +kernel))
theorem kn_En : Cond.initialized "java/util/NoSuchElementException" ∈ lw_tbl := List.mem_append_right _ (List.mem_of_getElem? (i := 10) (by decide +kernel))
theorem kn_Ei : Cond.initialized "java/lang/IndexOutOfBoundsException" ∈ lw_tbl := List.mem_append_right _ (List.mem_of_getElem? (i := 11) (by decide +kernel))
theorem kn_S : Cond.initialized "java/lang/System" ∈ lw_tbl := List.mem_append_right _ (List.mem_of_getElem? (i := 12) (by decide +kernel))
theorem k_L_8 : Cond.classLink R_L 8 "ForkedSheets" ∈ lw_tbl := List.mem_append_right _ (List.mem_of_getElem? (i := 13) (by decide +kernel))
theorem kt_X : Cond.instantiable R_X 4 ∈ lw_tbl := List.mem_append_right _ (List.mem_of_getElem? (i := 14) (by decide +kernel))
theorem k_L_48 : Cond.methodLink R_L 48 y_X_init ∈ lw_tbl := List.mem_append_right _ (List.mem_of_getElem? (i := 15) (by decide +kernel))
theorem ki_X_init : Cond.instanceMethod y_X_init ∈ lw_tbl := List.mem_append_right _ (List.mem_of_getElem? (i := 16) (by decide +kernel))
theorem kc_X_init : w_X_init ∈ lw_tbl := List.mem_append_right _ (List.mem_of_getElem? (i := 17) (by decide +kernel))
theorem k_X_3 : Cond.methodLink R_X 3 ⟨"java/lang/Object", "<init>", "()V"⟩ ∈ lw_tbl := List.mem_append_right _ (List.mem_of_getElem? (i := 18) (by decide +kernel))
theorem ki_Ob_init : Cond.instanceMethod ⟨"java/lang/Object", "<init>", "()V"⟩ ∈ lw_tbl := List.mem_append_right _ (List.mem_of_getElem? (i := 19) (by decide +kernel))
theorem k_X_13 : Cond.classLink R_X 13 "[[I" ∈ lw_tbl := List.mem_append_right _ (List.mem_of_getElem? (i := 21) (by decide +kernel))
theorem ka_over : Cond.arrayOver (.array .int) ∈ lw_tbl := List.mem_append_right _ (List.mem_of_getElem? (i := 22) (by decide +kernel))
theorem k_X_18 : Cond.classLink R_X 18 "ForkedSheets$Memory" ∈ lw_tbl := List.mem_append_right _ (List.mem_of_getElem? (i := 23) (by decide +kernel))
theorem kt_M : Cond.instantiable R_M 9 ∈ lw_tbl := List.mem_append_right _ (List.mem_of_getElem? (i := 24) (by decide +kernel))
theorem k_X_20 : Cond.methodLink R_X 20 ⟨"java/lang/Math", "max", "(II)I"⟩ ∈ lw_tbl := List.mem_append_right _ (List.mem_of_getElem? (i := 25) (by decide +kernel))
theorem ks_J_max : Cond.static ⟨"java/lang/Math", "max", "(II)I"⟩ ∈ lw_tbl := List.mem_append_right _ (List.mem_of_getElem? (i := 26) (by decide +kernel))
theorem k_X_26 : Cond.methodLink R_X 26 ⟨"java/lang/Math", "min", "(II)I"⟩ ∈ lw_tbl := List.mem_append_right _ (List.mem_of_getElem? (i := 28) (by decide +kernel))
theorem ks_J_min : Cond.static ⟨"java/lang/Math", "min", "(II)I"⟩ ∈ lw_tbl := List.mem_append_right _ (List.mem_of_getElem? (i := 29) (by decide +kernel))
theorem k_X_29 : Cond.methodLink R_X 29 y_M_init ∈ lw_tbl := List.mem_append_right _ (List.mem_of_getElem? (i := 31) (by decide +kernel))
theorem ki_M_init : Cond.instanceMethod y_M_init ∈ lw_tbl := List.mem_append_right _ (List.mem_of_getElem? (i := 32) (by decide +kernel))
theorem kc_M_init : w_M_init ∈ lw_tbl := List.mem_append_right _ (List.mem_of_getElem? (i := 33) (by decide +kernel))
theorem k_M_3 : Cond.methodLink R_M 3 ⟨"java/lang/Object", "<init>", "()V"⟩ ∈ lw_tbl := List.mem_append_right _ (List.mem_of_getElem? (i := 34) (by decide +kernel))
theorem k_M_9 : Cond.methodLinkNest R_M 9 y_X_freeRow "ForkedSheets" ∈ lw_tbl := List.mem_append_right _ (List.mem_of_getElem? (i := 35) (by decide +kernel))
theorem ks_X_freeRow : Cond.static y_X_freeRow ∈ lw_tbl := List.mem_append_right _ (List.mem_of_getElem? (i := 36) (by decide +kernel))
theorem kc_X_freeRow : w_X_freeRow ∈ lw_tbl := List.mem_append_right _ (List.mem_of_getElem? (i := 37) (by decide +kernel))
theorem k_X_36 : Cond.methodLink R_X 36 y_A_fill ∈ lw_tbl := List.mem_append_right _ (List.mem_of_getElem? (i := 38) (by decide +kernel))
theorem ks_A_fill : Cond.static y_A_fill ∈ lw_tbl := List.mem_append_right _ (List.mem_of_getElem? (i := 39) (by decide +kernel))
theorem kc_A_fill : w_A_fill ∈ lw_tbl := List.mem_append_right _ (List.mem_of_getElem? (i := 40) (by decide +kernel))
theorem k_M_32 : Cond.classLink R_M 32 "[[I" ∈ lw_tbl := List.mem_append_right _ (List.mem_of_getElem? (i := 41) (by decide +kernel))
theorem k_M_13 : Cond.fieldLink R_M 13 "ForkedSheets$Memory" "inFrame" "[I" ∈ lw_tbl := List.mem_append_right _ (List.mem_of_getElem? (i := 42) (by decide +kernel))
theorem k_X_103 : Cond.fieldLinkNest R_X 103 "ForkedSheets$Memory" "inFrame" "[I" "ForkedSheets" ∈ lw_tbl := List.mem_append_right _ (List.mem_of_getElem? (i := 43) (by decide +kernel))
theorem k_M_19 : Cond.fieldLink R_M 19 "ForkedSheets$Memory" "inSlot" "[I" ∈ lw_tbl := List.mem_append_right _ (List.mem_of_getElem? (i := 44) (by decide +kernel))
theorem k_X_111 : Cond.fieldLinkNest R_X 111 "ForkedSheets$Memory" "inSlot" "[I" "ForkedSheets" ∈ lw_tbl := List.mem_append_right _ (List.mem_of_getElem? (i := 45) (by decide +kernel))
theorem k_M_22 : Cond.fieldLink R_M 22 "ForkedSheets$Memory" "marks" "[Z" ∈ lw_tbl := List.mem_append_right _ (List.mem_of_getElem? (i := 46) (by decide +kernel))
theorem k_M_26 : Cond.fieldLink R_M 26 "ForkedSheets$Memory" "places" "[I" ∈ lw_tbl := List.mem_append_right _ (List.mem_of_getElem? (i := 47) (by decide +kernel))
theorem k_M_29 : Cond.fieldLink R_M 29 "ForkedSheets$Memory" "pageCounts" "[I" ∈ lw_tbl := List.mem_append_right _ (List.mem_of_getElem? (i := 48) (by decide +kernel))
theorem k_M_34 : Cond.fieldLink R_M 34 "ForkedSheets$Memory" "words" "[[I" ∈ lw_tbl := List.mem_append_right _ (List.mem_of_getElem? (i := 49) (by decide +kernel))
theorem k_X_100 : Cond.fieldLinkNest R_X 100 "ForkedSheets$Memory" "handAt" "I" "ForkedSheets" ∈ lw_tbl := List.mem_append_right _ (List.mem_of_getElem? (i := 50) (by decide +kernel))
theorem k_M_79 : Cond.fieldLink R_M 79 "ForkedSheets$Memory" "handAt" "I" ∈ lw_tbl := List.mem_append_right _ (List.mem_of_getElem? (i := 51) (by decide +kernel))
theorem k_M_71 : Cond.fieldLink R_M 71 "ForkedSheets$Memory" "faultCount" "I" ∈ lw_tbl := List.mem_append_right _ (List.mem_of_getElem? (i := 52) (by decide +kernel))
theorem k_X_114 : Cond.fieldLinkNest R_X 114 "ForkedSheets$Memory" "faultCount" "I" "ForkedSheets" ∈ lw_tbl := List.mem_append_right _ (List.mem_of_getElem? (i := 53) (by decide +kernel))
theorem k_M_85 : Cond.fieldLink R_M 85 "ForkedSheets$Memory" "evictedCount" "I" ∈ lw_tbl := List.mem_append_right _ (List.mem_of_getElem? (i := 54) (by decide +kernel))
theorem k_X_117 : Cond.fieldLinkNest R_X 117 "ForkedSheets$Memory" "evictedCount" "I" "ForkedSheets" ∈ lw_tbl := List.mem_append_right _ (List.mem_of_getElem? (i := 55) (by decide +kernel))
theorem ka_boolean : Cond.arrayClass .boolean ∈ lw_tbl := List.mem_append_right _ (List.mem_of_getElem? (i := 75) (by decide +kernel))
theorem ka_int : Cond.arrayClass .int ∈ lw_tbl := List.mem_append_right _ (List.mem_of_getElem? (i := 76) (by decide +kernel))
theorem k_X_9 : Cond.fieldLink R_X 9 "ForkedSheets" "there" "[Z" ∈ lw_tbl := List.mem_append_right _ (List.mem_of_getElem? (i := 77) (by decide +kernel))
theorem k_X_15 : Cond.fieldLink R_X 15 "ForkedSheets" "sheets" "[[I" ∈ lw_tbl := List.mem_append_right _ (List.mem_of_getElem? (i := 78) (by decide +kernel))
theorem k_X_32 : Cond.fieldLink R_X 32 "ForkedSheets" "memory" "LForkedSheets$Memory;" ∈ lw_tbl := List.mem_append_right _ (List.mem_of_getElem? (i := 79) (by decide +kernel))
theorem k_X_82 : Cond.fieldLink R_X 82 "ForkedSheets" "wordsCopied" "I" ∈ lw_tbl := List.mem_append_right _ (List.mem_of_getElem? (i := 80) (by decide +kernel))
theorem k_L_83 : Cond.methodLink R_L 83 y_X_copied ∈ lw_tbl := List.mem_append_right _ (List.mem_of_getElem? (i := 90) (by decide +kernel))
theorem ki_X_copied : Cond.instanceMethod y_X_copied ∈ lw_tbl := List.mem_append_right _ (List.mem_of_getElem? (i := 91) (by decide +kernel))
theorem kv_X_copied : Cond.selects R_X y_X_copied y_X_copied ∈ lw_tbl := List.mem_append_right _ (List.mem_of_getElem? (i := 92) (by decide +kernel))
theorem kc_X_copied : w_X_copied ∈ lw_tbl := List.mem_append_right _ (List.mem_of_getElem? (i := 93) (by decide +kernel))
theorem k_L_87 : Cond.methodLink R_L 87 y_X_where ∈ lw_tbl := List.mem_append_right _ (List.mem_of_getElem? (i := 94) (by decide +kernel))
theorem ki_X_where : Cond.instanceMethod y_X_where ∈ lw_tbl := List.mem_append_right _ (List.mem_of_getElem? (i := 95) (by decide +kernel))
theorem kv_X_where : Cond.selects R_X y_X_where y_X_where ∈ lw_tbl := List.mem_append_right _ (List.mem_of_getElem? (i := 96) (by decide +kernel))
theorem kc_X_where : w_X_where ∈ lw_tbl := List.mem_append_right _ (List.mem_of_getElem? (i := 97) (by decide +kernel))
theorem k_X_86 : Cond.methodLink R_X 86 y_X_sheetOf ∈ lw_tbl := List.mem_append_right _ (List.mem_of_getElem? (i := 98) (by decide +kernel))
theorem ki_X_sheetOf : Cond.instanceMethod y_X_sheetOf ∈ lw_tbl := List.mem_append_right _ (List.mem_of_getElem? (i := 100) (by decide +kernel))
theorem kc_X_sheetOf : w_X_sheetOf ∈ lw_tbl := List.mem_append_right _ (List.mem_of_getElem? (i := 101) (by decide +kernel))
theorem k_X_120 : Cond.methodLink R_X 120 y_X_isThere ∈ lw_tbl := List.mem_append_right _ (List.mem_of_getElem? (i := 102) (by decide +kernel))
theorem ki_X_isThere : Cond.instanceMethod y_X_isThere ∈ lw_tbl := List.mem_append_right _ (List.mem_of_getElem? (i := 103) (by decide +kernel))
theorem kv_X_isThere : Cond.selects R_X y_X_isThere y_X_isThere ∈ lw_tbl := List.mem_append_right _ (List.mem_of_getElem? (i := 104) (by decide +kernel))
theorem kc_X_isThere : w_X_isThere ∈ lw_tbl := List.mem_append_right _ (List.mem_of_getElem? (i := 105) (by decide +kernel))
theorem k_X_89 : Cond.methodLink R_X 89 y_M_placeOf ∈ lw_tbl := List.mem_append_right _ (List.mem_of_getElem? (i := 106) (by decide +kernel))
theorem ki_M_placeOf : Cond.instanceMethod y_M_placeOf ∈ lw_tbl := List.mem_append_right _ (List.mem_of_getElem? (i := 107) (by decide +kernel))
theorem kv_M_placeOf : Cond.selects R_M y_M_placeOf y_M_placeOf ∈ lw_tbl := List.mem_append_right _ (List.mem_of_getElem? (i := 108) (by decide +kernel))
theorem kc_M_placeOf : w_M_placeOf ∈ lw_tbl := List.mem_append_right _ (List.mem_of_getElem? (i := 109) (by decide +kernel))
theorem k_L_91 : Cond.methodLink R_L 91 y_X_sharers ∈ lw_tbl := List.mem_append_right _ (List.mem_of_getElem? (i := 110) (by decide +kernel))
theorem ki_X_sharers : Cond.instanceMethod y_X_sharers ∈ lw_tbl := List.mem_append_right _ (List.mem_of_getElem? (i := 111) (by decide +kernel))
theorem kv_X_sharers : Cond.selects R_X y_X_sharers y_X_sharers ∈ lw_tbl := List.mem_append_right _ (List.mem_of_getElem? (i := 112) (by decide +kernel))
theorem kc_X_sharers : w_X_sharers ∈ lw_tbl := List.mem_append_right _ (List.mem_of_getElem? (i := 113) (by decide +kernel))
theorem k_X_93 : Cond.methodLink R_X 93 y_M_pagesOf ∈ lw_tbl := List.mem_append_right _ (List.mem_of_getElem? (i := 114) (by decide +kernel))
theorem ki_M_pagesOf : Cond.instanceMethod y_M_pagesOf ∈ lw_tbl := List.mem_append_right _ (List.mem_of_getElem? (i := 115) (by decide +kernel))
theorem kv_M_pagesOf : Cond.selects R_M y_M_pagesOf y_M_pagesOf ∈ lw_tbl := List.mem_append_right _ (List.mem_of_getElem? (i := 116) (by decide +kernel))
theorem kc_M_pagesOf : w_M_pagesOf ∈ lw_tbl := List.mem_append_right _ (List.mem_of_getElem? (i := 117) (by decide +kernel))
theorem k_L_95 : Cond.methodLink R_L 95 y_X_isThere ∈ lw_tbl := List.mem_append_right _ (List.mem_of_getElem? (i := 118) (by decide +kernel))
theorem k_L_100 : Cond.methodLink R_L 100 y_X_marked ∈ lw_tbl := List.mem_append_right _ (List.mem_of_getElem? (i := 119) (by decide +kernel))
theorem ki_X_marked : Cond.instanceMethod y_X_marked ∈ lw_tbl := List.mem_append_right _ (List.mem_of_getElem? (i := 120) (by decide +kernel))
theorem kv_X_marked : Cond.selects R_X y_X_marked y_X_marked ∈ lw_tbl := List.mem_append_right _ (List.mem_of_getElem? (i := 121) (by decide +kernel))
theorem kc_X_marked : w_X_marked ∈ lw_tbl := List.mem_append_right _ (List.mem_of_getElem? (i := 122) (by decide +kernel))
theorem k_X_96 : Cond.methodLink R_X 96 y_M_hasMark ∈ lw_tbl := List.mem_append_right _ (List.mem_of_getElem? (i := 123) (by decide +kernel))
theorem ki_M_hasMark : Cond.instanceMethod y_M_hasMark ∈ lw_tbl := List.mem_append_right _ (List.mem_of_getElem? (i := 124) (by decide +kernel))
theorem kv_M_hasMark : Cond.selects R_M y_M_hasMark y_M_hasMark ∈ lw_tbl := List.mem_append_right _ (List.mem_of_getElem? (i := 125) (by decide +kernel))
theorem kc_M_hasMark : w_M_hasMark ∈ lw_tbl := List.mem_append_right _ (List.mem_of_getElem? (i := 126) (by decide +kernel))
theorem k_L_104 : Cond.methodLink R_L 104 y_X_hand ∈ lw_tbl := List.mem_append_right _ (List.mem_of_getElem? (i := 127) (by decide +kernel))
theorem ki_X_hand : Cond.instanceMethod y_X_hand ∈ lw_tbl := List.mem_append_right _ (List.mem_of_getElem? (i := 128) (by decide +kernel))
theorem kv_X_hand : Cond.selects R_X y_X_hand y_X_hand ∈ lw_tbl := List.mem_append_right _ (List.mem_of_getElem? (i := 129) (by decide +kernel))
theorem kc_X_hand : w_X_hand ∈ lw_tbl := List.mem_append_right _ (List.mem_of_getElem? (i := 130) (by decide +kernel))
theorem k_L_108 : Cond.methodLink R_L 108 y_X_freeFrames ∈ lw_tbl := List.mem_append_right _ (List.mem_of_getElem? (i := 131) (by decide +kernel))
theorem ki_X_freeFrames : Cond.instanceMethod y_X_freeFrames ∈ lw_tbl := List.mem_append_right _ (List.mem_of_getElem? (i := 132) (by decide +kernel))
theorem kv_X_freeFrames : Cond.selects R_X y_X_freeFrames y_X_freeFrames ∈ lw_tbl := List.mem_append_right _ (List.mem_of_getElem? (i := 133) (by decide +kernel))
theorem kc_X_freeFrames : w_X_freeFrames ∈ lw_tbl := List.mem_append_right _ (List.mem_of_getElem? (i := 134) (by decide +kernel))
theorem k_X_107 : Cond.methodLink R_X 107 y_X_countFree ∈ lw_tbl := List.mem_append_right _ (List.mem_of_getElem? (i := 135) (by decide +kernel))
theorem ks_X_countFree : Cond.static y_X_countFree ∈ lw_tbl := List.mem_append_right _ (List.mem_of_getElem? (i := 136) (by decide +kernel))
theorem kc_X_countFree : w_X_countFree ∈ lw_tbl := List.mem_append_right _ (List.mem_of_getElem? (i := 137) (by decide +kernel))
theorem k_L_112 : Cond.methodLink R_L 112 y_X_freeSlots ∈ lw_tbl := List.mem_append_right _ (List.mem_of_getElem? (i := 138) (by decide +kernel))
theorem ki_X_freeSlots : Cond.instanceMethod y_X_freeSlots ∈ lw_tbl := List.mem_append_right _ (List.mem_of_getElem? (i := 139) (by decide +kernel))
theorem kv_X_freeSlots : Cond.selects R_X y_X_freeSlots y_X_freeSlots ∈ lw_tbl := List.mem_append_right _ (List.mem_of_getElem? (i := 140) (by decide +kernel))
theorem kc_X_freeSlots : w_X_freeSlots ∈ lw_tbl := List.mem_append_right _ (List.mem_of_getElem? (i := 141) (by decide +kernel))
theorem k_L_116 : Cond.methodLink R_L 116 y_X_faults ∈ lw_tbl := List.mem_append_right _ (List.mem_of_getElem? (i := 142) (by decide +kernel))
theorem ki_X_faults : Cond.instanceMethod y_X_faults ∈ lw_tbl := List.mem_append_right _ (List.mem_of_getElem? (i := 143) (by decide +kernel))
theorem kv_X_faults : Cond.selects R_X y_X_faults y_X_faults ∈ lw_tbl := List.mem_append_right _ (List.mem_of_getElem? (i := 144) (by decide +kernel))
theorem kc_X_faults : w_X_faults ∈ lw_tbl := List.mem_append_right _ (List.mem_of_getElem? (i := 145) (by decide +kernel))
theorem k_L_120 : Cond.methodLink R_L 120 y_X_evicted ∈ lw_tbl := List.mem_append_right _ (List.mem_of_getElem? (i := 146) (by decide +kernel))
theorem ki_X_evicted : Cond.instanceMethod y_X_evicted ∈ lw_tbl := List.mem_append_right _ (List.mem_of_getElem? (i := 147) (by decide +kernel))
theorem kv_X_evicted : Cond.selects R_X y_X_evicted y_X_evicted ∈ lw_tbl := List.mem_append_right _ (List.mem_of_getElem? (i := 148) (by decide +kernel))
theorem kc_X_evicted : w_X_evicted ∈ lw_tbl := List.mem_append_right _ (List.mem_of_getElem? (i := 149) (by decide +kernel))
theorem k_L_42 : Cond.methodLink R_L 42 y_L_cell ∈ lw_tbl := List.mem_append_right _ (List.mem_of_getElem? (i := 150) (by decide +kernel))
theorem ks_L_cell : Cond.static y_L_cell ∈ lw_tbl := List.mem_append_right _ (List.mem_of_getElem? (i := 151) (by decide +kernel))
theorem kc_L_cell : w_L_cell ∈ lw_tbl := List.mem_append_right _ (List.mem_of_getElem? (i := 152) (by decide +kernel))
theorem k_L_54 : Cond.methodLink R_L 54 y_L_spawn ∈ lw_tbl := List.mem_append_right _ (List.mem_of_getElem? (i := 153) (by decide +kernel))
theorem ks_L_spawn : Cond.static y_L_spawn ∈ lw_tbl := List.mem_append_right _ (List.mem_of_getElem? (i := 154) (by decide +kernel))
theorem kc_L_spawn : w_L_spawn ∈ lw_tbl := List.mem_append_right _ (List.mem_of_getElem? (i := 155) (by decide +kernel))
theorem k_L_13 : Cond.classLink R_L 13 "java/lang/IllegalStateException" ∈ lw_tbl := List.mem_append_right _ (List.mem_of_getElem? (i := 156) (by decide +kernel))
theorem k_L_7 : Cond.methodLink R_L 7 y_X_spawn ∈ lw_tbl := List.mem_append_right _ (List.mem_of_getElem? (i := 157) (by decide +kernel))
theorem ki_X_spawn : Cond.instanceMethod y_X_spawn ∈ lw_tbl := List.mem_append_right _ (List.mem_of_getElem? (i := 158) (by decide +kernel))
theorem kv_X_spawn : Cond.selects R_X y_X_spawn y_X_spawn ∈ lw_tbl := List.mem_append_right _ (List.mem_of_getElem? (i := 159) (by decide +kernel))
theorem kc_X_spawn : w_X_spawn ∈ lw_tbl := List.mem_append_right _ (List.mem_of_getElem? (i := 160) (by decide +kernel))
theorem k_X_42 : Cond.methodLink R_X 42 y_X_lowestNotThere ∈ lw_tbl := List.mem_append_right _ (List.mem_of_getElem? (i := 161) (by decide +kernel))
theorem ki_X_lowestNotThere : Cond.instanceMethod y_X_lowestNotThere ∈ lw_tbl := List.mem_append_right _ (List.mem_of_getElem? (i := 163) (by decide +kernel))
theorem kc_X_lowestNotThere : w_X_lowestNotThere ∈ lw_tbl := List.mem_append_right _ (List.mem_of_getElem? (i := 164) (by decide +kernel))
theorem k_X_46 : Cond.classLink R_X 46 "java/lang/IllegalStateException" ∈ lw_tbl := List.mem_append_right _ (List.mem_of_getElem? (i := 165) (by decide +kernel))
theorem kt_Es : Cond.instantiable "java/lang/IllegalStateException" 6 ∈ lw_tbl := List.mem_append_right _ (List.mem_of_getElem? (i := 166) (by decide +kernel))
theorem ki_Th_init : Cond.instanceMethod ⟨"java/lang/Throwable", "<init>", "()V"⟩ ∈ lw_tbl := List.mem_append_right _ (List.mem_of_getElem? (i := 188) (by decide +kernel))
theorem kt_Th : Cond.instantiable "java/lang/Throwable" 6 ∈ lw_tbl := List.mem_append_right _ (List.mem_of_getElem? (i := 204) (by decide +kernel))
theorem kz_X_48 : Cond.stringRef R_X 48 "all processes are there" ∈ lw_tbl := List.mem_append_right _ (List.mem_of_getElem? (i := 206) (by decide +kernel))
theorem k_X_50 : Cond.methodLink R_X 50 ⟨"java/lang/IllegalStateException", "<init>", "(Ljava/lang/String;)V"⟩ ∈ lw_tbl := List.mem_append_right _ (List.mem_of_getElem? (i := 207) (by decide +kernel))
theorem ki_Es_init : Cond.instanceMethod ⟨"java/lang/IllegalStateException", "<init>", "(Ljava/lang/String;)V"⟩ ∈ lw_tbl := List.mem_append_right _ (List.mem_of_getElem? (i := 208) (by decide +kernel))
theorem ki_Er_init : Cond.instanceMethod ⟨"java/lang/RuntimeException", "<init>", "(Ljava/lang/String;)V"⟩ ∈ lw_tbl := List.mem_append_right _ (List.mem_of_getElem? (i := 211) (by decide +kernel))
theorem ki_Ex_init : Cond.instanceMethod ⟨"java/lang/Exception", "<init>", "(Ljava/lang/String;)V"⟩ ∈ lw_tbl := List.mem_append_right _ (List.mem_of_getElem? (i := 214) (by decide +kernel))
theorem ki_Th_initS : Cond.instanceMethod ⟨"java/lang/Throwable", "<init>", "(Ljava/lang/String;)V"⟩ ∈ lw_tbl := List.mem_append_right _ (List.mem_of_getElem? (i := 217) (by decide +kernel))
theorem ka_byte : Cond.arrayClass .byte ∈ lw_tbl := List.mem_append_right _ (List.mem_of_getElem? (i := 232) (by decide +kernel))
theorem k_L_61 : Cond.methodLink R_L 61 y_L_fork ∈ lw_tbl := List.mem_append_right _ (List.mem_of_getElem? (i := 233) (by decide +kernel))
theorem ks_L_fork : Cond.static y_L_fork ∈ lw_tbl := List.mem_append_right _ (List.mem_of_getElem? (i := 234) (by decide +kernel))
theorem kc_L_fork : w_L_fork ∈ lw_tbl := List.mem_append_right _ (List.mem_of_getElem? (i := 235) (by decide +kernel))
theorem k_L_19 : Cond.classLink R_L 19 "java/util/NoSuchElementException" ∈ lw_tbl := List.mem_append_right _ (List.mem_of_getElem? (i := 236) (by decide +kernel))
theorem k_L_15 : Cond.methodLink R_L 15 y_X_fork ∈ lw_tbl := List.mem_append_right _ (List.mem_of_getElem? (i := 237) (by decide +kernel))
theorem ki_X_fork : Cond.instanceMethod y_X_fork ∈ lw_tbl := List.mem_append_right _ (List.mem_of_getElem? (i := 238) (by decide +kernel))
theorem kv_X_fork : Cond.selects R_X y_X_fork y_X_fork ∈ lw_tbl := List.mem_append_right _ (List.mem_of_getElem? (i := 239) (by decide +kernel))
theorem kc_X_fork : w_X_fork ∈ lw_tbl := List.mem_append_right _ (List.mem_of_getElem? (i := 240) (by decide +kernel))
theorem k_X_53 : Cond.methodLink R_X 53 y_X_requireProcess ∈ lw_tbl := List.mem_append_right _ (List.mem_of_getElem? (i := 241) (by decide +kernel))
theorem ki_X_requireProcess : Cond.instanceMethod y_X_requireProcess ∈ lw_tbl := List.mem_append_right _ (List.mem_of_getElem? (i := 243) (by decide +kernel))
theorem kc_X_requireProcess : w_X_requireProcess ∈ lw_tbl := List.mem_append_right _ (List.mem_of_getElem? (i := 244) (by decide +kernel))
theorem k_X_123 : Cond.classLink R_X 123 "java/util/NoSuchElementException" ∈ lw_tbl := List.mem_append_right _ (List.mem_of_getElem? (i := 245) (by decide +kernel))
theorem kt_En : Cond.instantiable "java/util/NoSuchElementException" 6 ∈ lw_tbl := List.mem_append_right _ (List.mem_of_getElem? (i := 246) (by decide +kernel))
theorem kz_X_125 : Cond.stringRef R_X 125 "no such process" ∈ lw_tbl := List.mem_append_right _ (List.mem_of_getElem? (i := 254) (by decide +kernel))
theorem k_X_127 : Cond.methodLink R_X 127 ⟨"java/util/NoSuchElementException", "<init>", "(Ljava/lang/String;)V"⟩ ∈ lw_tbl := List.mem_append_right _ (List.mem_of_getElem? (i := 255) (by decide +kernel))
theorem ki_En_init : Cond.instanceMethod ⟨"java/util/NoSuchElementException", "<init>", "(Ljava/lang/String;)V"⟩ ∈ lw_tbl := List.mem_append_right _ (List.mem_of_getElem? (i := 256) (by decide +kernel))
theorem k_X_57 : Cond.methodLink R_X 57 y_M_join ∈ lw_tbl := List.mem_append_right _ (List.mem_of_getElem? (i := 261) (by decide +kernel))
theorem ki_M_join : Cond.instanceMethod y_M_join ∈ lw_tbl := List.mem_append_right _ (List.mem_of_getElem? (i := 262) (by decide +kernel))
theorem kv_M_join : Cond.selects R_M y_M_join y_M_join ∈ lw_tbl := List.mem_append_right _ (List.mem_of_getElem? (i := 263) (by decide +kernel))
theorem kc_M_join : w_M_join ∈ lw_tbl := List.mem_append_right _ (List.mem_of_getElem? (i := 264) (by decide +kernel))
theorem k_L_65 : Cond.methodLink R_L 65 y_L_exit ∈ lw_tbl := List.mem_append_right _ (List.mem_of_getElem? (i := 265) (by decide +kernel))
theorem ks_L_exit : Cond.static y_L_exit ∈ lw_tbl := List.mem_append_right _ (List.mem_of_getElem? (i := 266) (by decide +kernel))
theorem kc_L_exit : w_L_exit ∈ lw_tbl := List.mem_append_right _ (List.mem_of_getElem? (i := 267) (by decide +kernel))
theorem k_L_21 : Cond.methodLink R_L 21 y_X_exit ∈ lw_tbl := List.mem_append_right _ (List.mem_of_getElem? (i := 268) (by decide +kernel))
theorem ki_X_exit : Cond.instanceMethod y_X_exit ∈ lw_tbl := List.mem_append_right _ (List.mem_of_getElem? (i := 269) (by decide +kernel))
theorem kv_X_exit : Cond.selects R_X y_X_exit y_X_exit ∈ lw_tbl := List.mem_append_right _ (List.mem_of_getElem? (i := 270) (by decide +kernel))
theorem kc_X_exit : w_X_exit ∈ lw_tbl := List.mem_append_right _ (List.mem_of_getElem? (i := 271) (by decide +kernel))
theorem k_X_60 : Cond.methodLink R_X 60 y_X_emptyPage ∈ lw_tbl := List.mem_append_right _ (List.mem_of_getElem? (i := 272) (by decide +kernel))
theorem ki_X_emptyPage : Cond.instanceMethod y_X_emptyPage ∈ lw_tbl := List.mem_append_right _ (List.mem_of_getElem? (i := 274) (by decide +kernel))
theorem kc_X_emptyPage : w_X_emptyPage ∈ lw_tbl := List.mem_append_right _ (List.mem_of_getElem? (i := 275) (by decide +kernel))
theorem k_X_132 : Cond.methodLink R_X 132 y_M_leave ∈ lw_tbl := List.mem_append_right _ (List.mem_of_getElem? (i := 276) (by decide +kernel))
theorem ki_M_leave : Cond.instanceMethod y_M_leave ∈ lw_tbl := List.mem_append_right _ (List.mem_of_getElem? (i := 277) (by decide +kernel))
theorem kv_M_leave : Cond.selects R_M y_M_leave y_M_leave ∈ lw_tbl := List.mem_append_right _ (List.mem_of_getElem? (i := 278) (by decide +kernel))
theorem kc_M_leave : w_M_leave ∈ lw_tbl := List.mem_append_right _ (List.mem_of_getElem? (i := 279) (by decide +kernel))
theorem k_M_65 : Cond.methodLink R_M 65 y_M_freePlace ∈ lw_tbl := List.mem_append_right _ (List.mem_of_getElem? (i := 280) (by decide +kernel))
theorem ki_M_freePlace : Cond.instanceMethod y_M_freePlace ∈ lw_tbl := List.mem_append_right _ (List.mem_of_getElem? (i := 282) (by decide +kernel))
theorem kc_M_freePlace : w_M_freePlace ∈ lw_tbl := List.mem_append_right _ (List.mem_of_getElem? (i := 283) (by decide +kernel))
theorem k_L_68 : Cond.methodLink R_L 68 y_L_drop ∈ lw_tbl := List.mem_append_right _ (List.mem_of_getElem? (i := 284) (by decide +kernel))
theorem ks_L_drop : Cond.static y_L_drop ∈ lw_tbl := List.mem_append_right _ (List.mem_of_getElem? (i := 285) (by decide +kernel))
theorem kc_L_drop : w_L_drop ∈ lw_tbl := List.mem_append_right _ (List.mem_of_getElem? (i := 286) (by decide +kernel))
theorem k_L_28 : Cond.classLink R_L 28 "java/lang/IndexOutOfBoundsException" ∈ lw_tbl := List.mem_append_right _ (List.mem_of_getElem? (i := 287) (by decide +kernel))
theorem k_L_24 : Cond.methodLink R_L 24 y_X_drop ∈ lw_tbl := List.mem_append_right _ (List.mem_of_getElem? (i := 288) (by decide +kernel))
theorem ki_X_drop : Cond.instanceMethod y_X_drop ∈ lw_tbl := List.mem_append_right _ (List.mem_of_getElem? (i := 289) (by decide +kernel))
theorem kv_X_drop : Cond.selects R_X y_X_drop y_X_drop ∈ lw_tbl := List.mem_append_right _ (List.mem_of_getElem? (i := 290) (by decide +kernel))
theorem kc_X_drop : w_X_drop ∈ lw_tbl := List.mem_append_right _ (List.mem_of_getElem? (i := 291) (by decide +kernel))
theorem k_X_64 : Cond.classLink R_X 64 "java/lang/IndexOutOfBoundsException" ∈ lw_tbl := List.mem_append_right _ (List.mem_of_getElem? (i := 292) (by decide +kernel))
theorem kt_Ei : Cond.instantiable "java/lang/IndexOutOfBoundsException" 6 ∈ lw_tbl := List.mem_append_right _ (List.mem_of_getElem? (i := 293) (by decide +kernel))
theorem kz_X_66 : Cond.stringRef R_X 66 "no such page" ∈ lw_tbl := List.mem_append_right _ (List.mem_of_getElem? (i := 301) (by decide +kernel))
theorem k_X_68 : Cond.methodLink R_X 68 ⟨"java/lang/IndexOutOfBoundsException", "<init>", "(Ljava/lang/String;)V"⟩ ∈ lw_tbl := List.mem_append_right _ (List.mem_of_getElem? (i := 302) (by decide +kernel))
theorem ki_Ei_init : Cond.instanceMethod ⟨"java/lang/IndexOutOfBoundsException", "<init>", "(Ljava/lang/String;)V"⟩ ∈ lw_tbl := List.mem_append_right _ (List.mem_of_getElem? (i := 303) (by decide +kernel))
theorem k_L_72 : Cond.methodLink R_L 72 y_L_load ∈ lw_tbl := List.mem_append_right _ (List.mem_of_getElem? (i := 308) (by decide +kernel))
theorem ks_L_load : Cond.static y_L_load ∈ lw_tbl := List.mem_append_right _ (List.mem_of_getElem? (i := 309) (by decide +kernel))
theorem kc_L_load : w_L_load ∈ lw_tbl := List.mem_append_right _ (List.mem_of_getElem? (i := 310) (by decide +kernel))
theorem k_L_30 : Cond.methodLink R_L 30 y_X_load ∈ lw_tbl := List.mem_append_right _ (List.mem_of_getElem? (i := 311) (by decide +kernel))
theorem ki_X_load : Cond.instanceMethod y_X_load ∈ lw_tbl := List.mem_append_right _ (List.mem_of_getElem? (i := 312) (by decide +kernel))
theorem kv_X_load : Cond.selects R_X y_X_load y_X_load ∈ lw_tbl := List.mem_append_right _ (List.mem_of_getElem? (i := 313) (by decide +kernel))
theorem kc_X_load : w_X_load ∈ lw_tbl := List.mem_append_right _ (List.mem_of_getElem? (i := 314) (by decide +kernel))
theorem k_X_69 : Cond.methodLink R_X 69 y_X_requireAddress ∈ lw_tbl := List.mem_append_right _ (List.mem_of_getElem? (i := 315) (by decide +kernel))
theorem ks_X_requireAddress : Cond.static y_X_requireAddress ∈ lw_tbl := List.mem_append_right _ (List.mem_of_getElem? (i := 316) (by decide +kernel))
theorem kc_X_requireAddress : w_X_requireAddress ∈ lw_tbl := List.mem_append_right _ (List.mem_of_getElem? (i := 317) (by decide +kernel))
theorem kz_X_128 : Cond.stringRef R_X 128 "no such address" ∈ lw_tbl := List.mem_append_right _ (List.mem_of_getElem? (i := 318) (by decide +kernel))
theorem k_X_72 : Cond.methodLink R_X 72 y_X_loadWord ∈ lw_tbl := List.mem_append_right _ (List.mem_of_getElem? (i := 319) (by decide +kernel))
theorem ki_X_loadWord : Cond.instanceMethod y_X_loadWord ∈ lw_tbl := List.mem_append_right _ (List.mem_of_getElem? (i := 321) (by decide +kernel))
theorem kc_X_loadWord : w_X_loadWord ∈ lw_tbl := List.mem_append_right _ (List.mem_of_getElem? (i := 322) (by decide +kernel))
theorem k_X_135 : Cond.methodLink R_X 135 y_M_read ∈ lw_tbl := List.mem_append_right _ (List.mem_of_getElem? (i := 323) (by decide +kernel))
theorem ki_M_read : Cond.instanceMethod y_M_read ∈ lw_tbl := List.mem_append_right _ (List.mem_of_getElem? (i := 324) (by decide +kernel))
theorem kv_M_read : Cond.selects R_M y_M_read y_M_read ∈ lw_tbl := List.mem_append_right _ (List.mem_of_getElem? (i := 325) (by decide +kernel))
theorem kc_M_read : w_M_read ∈ lw_tbl := List.mem_append_right _ (List.mem_of_getElem? (i := 326) (by decide +kernel))
theorem k_M_37 : Cond.methodLink R_M 37 y_M_touch ∈ lw_tbl := List.mem_append_right _ (List.mem_of_getElem? (i := 327) (by decide +kernel))
theorem ki_M_touch : Cond.instanceMethod y_M_touch ∈ lw_tbl := List.mem_append_right _ (List.mem_of_getElem? (i := 329) (by decide +kernel))
theorem kc_M_touch : w_M_touch ∈ lw_tbl := List.mem_append_right _ (List.mem_of_getElem? (i := 330) (by decide +kernel))
theorem k_M_68 : Cond.methodLink R_M 68 y_M_bringIn ∈ lw_tbl := List.mem_append_right _ (List.mem_of_getElem? (i := 331) (by decide +kernel))
theorem ki_M_bringIn : Cond.instanceMethod y_M_bringIn ∈ lw_tbl := List.mem_append_right _ (List.mem_of_getElem? (i := 333) (by decide +kernel))
theorem kc_M_bringIn : w_M_bringIn ∈ lw_tbl := List.mem_append_right _ (List.mem_of_getElem? (i := 334) (by decide +kernel))
theorem k_M_51 : Cond.methodLink R_M 51 y_M_getFrame ∈ lw_tbl := List.mem_append_right _ (List.mem_of_getElem? (i := 335) (by decide +kernel))
theorem ki_M_getFrame : Cond.instanceMethod y_M_getFrame ∈ lw_tbl := List.mem_append_right _ (List.mem_of_getElem? (i := 337) (by decide +kernel))
theorem kc_M_getFrame : w_M_getFrame ∈ lw_tbl := List.mem_append_right _ (List.mem_of_getElem? (i := 338) (by decide +kernel))
theorem k_M_47 : Cond.methodLinkNest R_M 47 y_X_lowestFree "ForkedSheets" ∈ lw_tbl := List.mem_append_right _ (List.mem_of_getElem? (i := 339) (by decide +kernel))
theorem ks_X_lowestFree : Cond.static y_X_lowestFree ∈ lw_tbl := List.mem_append_right _ (List.mem_of_getElem? (i := 340) (by decide +kernel))
theorem kc_X_lowestFree : w_X_lowestFree ∈ lw_tbl := List.mem_append_right _ (List.mem_of_getElem? (i := 341) (by decide +kernel))
theorem k_M_75 : Cond.methodLink R_M 75 y_M_evictInto ∈ lw_tbl := List.mem_append_right _ (List.mem_of_getElem? (i := 342) (by decide +kernel))
theorem ki_M_evictInto : Cond.instanceMethod y_M_evictInto ∈ lw_tbl := List.mem_append_right _ (List.mem_of_getElem? (i := 344) (by decide +kernel))
theorem kc_M_evictInto : w_M_evictInto ∈ lw_tbl := List.mem_append_right _ (List.mem_of_getElem? (i := 345) (by decide +kernel))
theorem k_M_82 : Cond.methodLink R_M 82 y_M_moveHand ∈ lw_tbl := List.mem_append_right _ (List.mem_of_getElem? (i := 346) (by decide +kernel))
theorem ki_M_moveHand : Cond.instanceMethod y_M_moveHand ∈ lw_tbl := List.mem_append_right _ (List.mem_of_getElem? (i := 348) (by decide +kernel))
theorem kc_M_moveHand : w_M_moveHand ∈ lw_tbl := List.mem_append_right _ (List.mem_of_getElem? (i := 349) (by decide +kernel))
theorem k_M_61 : Cond.methodLink R_M 61 y_M_layIntoFrame ∈ lw_tbl := List.mem_append_right _ (List.mem_of_getElem? (i := 350) (by decide +kernel))
theorem ki_M_layIntoFrame : Cond.instanceMethod y_M_layIntoFrame ∈ lw_tbl := List.mem_append_right _ (List.mem_of_getElem? (i := 352) (by decide +kernel))
theorem kc_M_layIntoFrame : w_M_layIntoFrame ∈ lw_tbl := List.mem_append_right _ (List.mem_of_getElem? (i := 353) (by decide +kernel))
theorem k_L_75 : Cond.methodLink R_L 75 y_L_store ∈ lw_tbl := List.mem_append_right _ (List.mem_of_getElem? (i := 354) (by decide +kernel))
theorem ks_L_store : Cond.static y_L_store ∈ lw_tbl := List.mem_append_right _ (List.mem_of_getElem? (i := 355) (by decide +kernel))
theorem kc_L_store : w_L_store ∈ lw_tbl := List.mem_append_right _ (List.mem_of_getElem? (i := 356) (by decide +kernel))
theorem k_L_34 : Cond.methodLink R_L 34 y_X_store ∈ lw_tbl := List.mem_append_right _ (List.mem_of_getElem? (i := 357) (by decide +kernel))
theorem ki_X_store : Cond.instanceMethod y_X_store ∈ lw_tbl := List.mem_append_right _ (List.mem_of_getElem? (i := 358) (by decide +kernel))
theorem kv_X_store : Cond.selects R_X y_X_store y_X_store ∈ lw_tbl := List.mem_append_right _ (List.mem_of_getElem? (i := 359) (by decide +kernel))
theorem kc_X_store : w_X_store ∈ lw_tbl := List.mem_append_right _ (List.mem_of_getElem? (i := 360) (by decide +kernel))
theorem k_X_75 : Cond.methodLink R_X 75 y_X_storeWord ∈ lw_tbl := List.mem_append_right _ (List.mem_of_getElem? (i := 361) (by decide +kernel))
theorem ki_X_storeWord : Cond.instanceMethod y_X_storeWord ∈ lw_tbl := List.mem_append_right _ (List.mem_of_getElem? (i := 363) (by decide +kernel))
theorem kc_X_storeWord : w_X_storeWord ∈ lw_tbl := List.mem_append_right _ (List.mem_of_getElem? (i := 364) (by decide +kernel))
theorem k_X_138 : Cond.methodLink R_X 138 y_X_giveOwnSheet ∈ lw_tbl := List.mem_append_right _ (List.mem_of_getElem? (i := 365) (by decide +kernel))
theorem ki_X_giveOwnSheet : Cond.instanceMethod y_X_giveOwnSheet ∈ lw_tbl := List.mem_append_right _ (List.mem_of_getElem? (i := 367) (by decide +kernel))
theorem kc_X_giveOwnSheet : w_X_giveOwnSheet ∈ lw_tbl := List.mem_append_right _ (List.mem_of_getElem? (i := 368) (by decide +kernel))
theorem k_X_144 : Cond.methodLink R_X 144 y_M_make ∈ lw_tbl := List.mem_append_right _ (List.mem_of_getElem? (i := 369) (by decide +kernel))
theorem ki_M_make : Cond.instanceMethod y_M_make ∈ lw_tbl := List.mem_append_right _ (List.mem_of_getElem? (i := 370) (by decide +kernel))
theorem kv_M_make : Cond.selects R_M y_M_make y_M_make ∈ lw_tbl := List.mem_append_right _ (List.mem_of_getElem? (i := 371) (by decide +kernel))
theorem kc_M_make : w_M_make ∈ lw_tbl := List.mem_append_right _ (List.mem_of_getElem? (i := 372) (by decide +kernel))
theorem k_M_55 : Cond.methodLink R_M 55 y_A_fill ∈ lw_tbl := List.mem_append_right _ (List.mem_of_getElem? (i := 373) (by decide +kernel))
theorem kz_X_147 : Cond.stringRef R_X 147 "no frame and no slot is free" ∈ lw_tbl := List.mem_append_right _ (List.mem_of_getElem? (i := 374) (by decide +kernel))
theorem k_X_149 : Cond.methodLink R_X 149 y_M_copyWords ∈ lw_tbl := List.mem_append_right _ (List.mem_of_getElem? (i := 375) (by decide +kernel))
theorem ki_M_copyWords : Cond.instanceMethod y_M_copyWords ∈ lw_tbl := List.mem_append_right _ (List.mem_of_getElem? (i := 376) (by decide +kernel))
theorem kv_M_copyWords : Cond.selects R_M y_M_copyWords y_M_copyWords ∈ lw_tbl := List.mem_append_right _ (List.mem_of_getElem? (i := 377) (by decide +kernel))
theorem kc_M_copyWords : w_M_copyWords ∈ lw_tbl := List.mem_append_right _ (List.mem_of_getElem? (i := 378) (by decide +kernel))
theorem k_M_41 : Cond.methodLink R_M 41 ⟨"java/lang/System", "arraycopy", "(Ljava/lang/Object;ILjava/lang/Object;II)V"⟩ ∈ lw_tbl := List.mem_append_right _ (List.mem_of_getElem? (i := 379) (by decide +kernel))
theorem ks_S_arraycopy : Cond.static ⟨"java/lang/System", "arraycopy", "(Ljava/lang/Object;ILjava/lang/Object;II)V"⟩ ∈ lw_tbl := List.mem_append_right _ (List.mem_of_getElem? (i := 380) (by decide +kernel))
theorem kN_S_arraycopy : Cond.native ⟨"java/lang/System", "arraycopy", "(Ljava/lang/Object;ILjava/lang/Object;II)V"⟩ ∈ lw_tbl := List.mem_append_right _ (List.mem_of_getElem? (i := 381) (by decide +kernel))
theorem k_X_141 : Cond.methodLink R_X 141 y_M_write ∈ lw_tbl := List.mem_append_right _ (List.mem_of_getElem? (i := 382) (by decide +kernel))
theorem ki_M_write : Cond.instanceMethod y_M_write ∈ lw_tbl := List.mem_append_right _ (List.mem_of_getElem? (i := 383) (by decide +kernel))
theorem kv_M_write : Cond.selects R_M y_M_write y_M_write ∈ lw_tbl := List.mem_append_right _ (List.mem_of_getElem? (i := 384) (by decide +kernel))
theorem kc_M_write : w_M_write ∈ lw_tbl := List.mem_append_right _ (List.mem_of_getElem? (i := 385) (by decide +kernel))
theorem k_L_79 : Cond.methodLink R_L 79 y_L_copy ∈ lw_tbl := List.mem_append_right _ (List.mem_of_getElem? (i := 386) (by decide +kernel))
theorem ks_L_copy : Cond.static y_L_copy ∈ lw_tbl := List.mem_append_right _ (List.mem_of_getElem? (i := 387) (by decide +kernel))
theorem kc_L_copy : w_L_copy ∈ lw_tbl := List.mem_append_right _ (List.mem_of_getElem? (i := 388) (by decide +kernel))
theorem k_L_38 : Cond.methodLink R_L 38 y_X_copy ∈ lw_tbl := List.mem_append_right _ (List.mem_of_getElem? (i := 389) (by decide +kernel))
theorem ki_X_copy : Cond.instanceMethod y_X_copy ∈ lw_tbl := List.mem_append_right _ (List.mem_of_getElem? (i := 390) (by decide +kernel))
theorem kv_X_copy : Cond.selects R_X y_X_copy y_X_copy ∈ lw_tbl := List.mem_append_right _ (List.mem_of_getElem? (i := 391) (by decide +kernel))
theorem kc_X_copy : w_X_copy ∈ lw_tbl := List.mem_append_right _ (List.mem_of_getElem? (i := 392) (by decide +kernel))
theorem k_X_79 : Cond.methodLink R_X 79 y_X_requireRange ∈ lw_tbl := List.mem_append_right _ (List.mem_of_getElem? (i := 393) (by decide +kernel))
theorem ks_X_requireRange : Cond.static y_X_requireRange ∈ lw_tbl := List.mem_append_right _ (List.mem_of_getElem? (i := 394) (by decide +kernel))
theorem kc_X_requireRange : w_X_requireRange ∈ lw_tbl := List.mem_append_right _ (List.mem_of_getElem? (i := 395) (by decide +kernel))
theorem kz_X_130 : Cond.stringRef R_X 130 "fewer words than none" ∈ lw_tbl := List.mem_append_right _ (List.mem_of_getElem? (i := 396) (by decide +kernel))
theorem k_L_51 : Cond.classLink R_L 51 "ForkedSheetsModel" ∈ lw_tbl := List.mem_append_right _ (List.mem_of_getElem? (i := 397) (by decide +kernel))
theorem kt_T : Cond.instantiable R_T 12 ∈ lw_tbl := List.mem_append_right _ (List.mem_of_getElem? (i := 398) (by decide +kernel))
theorem k_L_53 : Cond.methodLink R_L 53 y_T_init ∈ lw_tbl := List.mem_append_right _ (List.mem_of_getElem? (i := 399) (by decide +kernel))
theorem ki_T_init : Cond.instanceMethod y_T_init ∈ lw_tbl := List.mem_append_right _ (List.mem_of_getElem? (i := 400) (by decide +kernel))
theorem kc_T_init : w_T_init ∈ lw_tbl := List.mem_append_right _ (List.mem_of_getElem? (i := 401) (by decide +kernel))
theorem k_T_1 : Cond.methodLink R_T 1 ⟨"java/lang/Object", "<init>", "()V"⟩ ∈ lw_tbl := List.mem_append_right _ (List.mem_of_getElem? (i := 402) (by decide +kernel))
theorem k_T_33 : Cond.fieldLink R_T 33 "ForkedSheetsModel" "thrown" "I" ∈ lw_tbl := List.mem_append_right _ (List.mem_of_getElem? (i := 403) (by decide +kernel))
theorem k_T_26 : Cond.fieldLink R_T 26 "ForkedSheetsModel" "frames" "I" ∈ lw_tbl := List.mem_append_right _ (List.mem_of_getElem? (i := 404) (by decide +kernel))
theorem k_T_30 : Cond.fieldLink R_T 30 "ForkedSheetsModel" "slots" "I" ∈ lw_tbl := List.mem_append_right _ (List.mem_of_getElem? (i := 405) (by decide +kernel))
theorem k_T_7 : Cond.fieldLink R_T 7 "ForkedSheetsModel" "marks" "[Z" ∈ lw_tbl := List.mem_append_right _ (List.mem_of_getElem? (i := 406) (by decide +kernel))
theorem k_T_40 : Cond.fieldLink R_T 40 "ForkedSheetsModel" "hand" "I" ∈ lw_tbl := List.mem_append_right _ (List.mem_of_getElem? (i := 407) (by decide +kernel))
theorem k_T_13 : Cond.fieldLink R_T 13 "ForkedSheetsModel" "lies" "[I" ∈ lw_tbl := List.mem_append_right _ (List.mem_of_getElem? (i := 408) (by decide +kernel))
theorem k_T_17 : Cond.fieldLink R_T 17 "ForkedSheetsModel" "words" "[I" ∈ lw_tbl := List.mem_append_right _ (List.mem_of_getElem? (i := 409) (by decide +kernel))
theorem k_T_20 : Cond.fieldLink R_T 20 "ForkedSheetsModel" "there" "[Z" ∈ lw_tbl := List.mem_append_right _ (List.mem_of_getElem? (i := 410) (by decide +kernel))
theorem k_T_23 : Cond.fieldLink R_T 23 "ForkedSheetsModel" "pages" "[I" ∈ lw_tbl := List.mem_append_right _ (List.mem_of_getElem? (i := 411) (by decide +kernel))
theorem k_T_59 : Cond.fieldLink R_T 59 "ForkedSheetsModel" "faults" "I" ∈ lw_tbl := List.mem_append_right _ (List.mem_of_getElem? (i := 412) (by decide +kernel))
theorem k_T_53 : Cond.fieldLink R_T 53 "ForkedSheetsModel" "evictions" "I" ∈ lw_tbl := List.mem_append_right _ (List.mem_of_getElem? (i := 413) (by decide +kernel))
theorem k_T_102 : Cond.fieldLink R_T 102 "ForkedSheetsModel" "copies" "I" ∈ lw_tbl := List.mem_append_right _ (List.mem_of_getElem? (i := 414) (by decide +kernel))
theorem k_L_58 : Cond.methodLink R_L 58 y_T_thrown ∈ lw_tbl := List.mem_append_right _ (List.mem_of_getElem? (i := 440) (by decide +kernel))
theorem ki_T_thrown : Cond.instanceMethod y_T_thrown ∈ lw_tbl := List.mem_append_right _ (List.mem_of_getElem? (i := 441) (by decide +kernel))
theorem kv_T_thrown : Cond.selects R_T y_T_thrown y_T_thrown ∈ lw_tbl := List.mem_append_right _ (List.mem_of_getElem? (i := 442) (by decide +kernel))
theorem kc_T_thrown : w_T_thrown ∈ lw_tbl := List.mem_append_right _ (List.mem_of_getElem? (i := 443) (by decide +kernel))
theorem k_L_57 : Cond.methodLink R_L 57 y_T_spawn ∈ lw_tbl := List.mem_append_right _ (List.mem_of_getElem? (i := 444) (by decide +kernel))
theorem ki_T_spawn : Cond.instanceMethod y_T_spawn ∈ lw_tbl := List.mem_append_right _ (List.mem_of_getElem? (i := 445) (by decide +kernel))
theorem kv_T_spawn : Cond.selects R_T y_T_spawn y_T_spawn ∈ lw_tbl := List.mem_append_right _ (List.mem_of_getElem? (i := 446) (by decide +kernel))
theorem kc_T_spawn : w_T_spawn ∈ lw_tbl := List.mem_append_right _ (List.mem_of_getElem? (i := 447) (by decide +kernel))
theorem k_T_65 : Cond.methodLink R_T 65 y_T_lowestProcess ∈ lw_tbl := List.mem_append_right _ (List.mem_of_getElem? (i := 448) (by decide +kernel))
theorem ki_T_lowestProcess : Cond.instanceMethod y_T_lowestProcess ∈ lw_tbl := List.mem_append_right _ (List.mem_of_getElem? (i := 450) (by decide +kernel))
theorem kc_T_lowestProcess : w_T_lowestProcess ∈ lw_tbl := List.mem_append_right _ (List.mem_of_getElem? (i := 451) (by decide +kernel))
theorem k_L_64 : Cond.methodLink R_L 64 y_T_fork ∈ lw_tbl := List.mem_append_right _ (List.mem_of_getElem? (i := 452) (by decide +kernel))
theorem ki_T_fork : Cond.instanceMethod y_T_fork ∈ lw_tbl := List.mem_append_right _ (List.mem_of_getElem? (i := 453) (by decide +kernel))
theorem kv_T_fork : Cond.selects R_T y_T_fork y_T_fork ∈ lw_tbl := List.mem_append_right _ (List.mem_of_getElem? (i := 454) (by decide +kernel))
theorem kc_T_fork : w_T_fork ∈ lw_tbl := List.mem_append_right _ (List.mem_of_getElem? (i := 455) (by decide +kernel))
theorem k_T_68 : Cond.methodLink R_T 68 y_T_isProcess ∈ lw_tbl := List.mem_append_right _ (List.mem_of_getElem? (i := 456) (by decide +kernel))
theorem ki_T_isProcess : Cond.instanceMethod y_T_isProcess ∈ lw_tbl := List.mem_append_right _ (List.mem_of_getElem? (i := 458) (by decide +kernel))
theorem kc_T_isProcess : w_T_isProcess ∈ lw_tbl := List.mem_append_right _ (List.mem_of_getElem? (i := 459) (by decide +kernel))
theorem k_L_67 : Cond.methodLink R_L 67 y_T_exit ∈ lw_tbl := List.mem_append_right _ (List.mem_of_getElem? (i := 460) (by decide +kernel))
theorem ki_T_exit : Cond.instanceMethod y_T_exit ∈ lw_tbl := List.mem_append_right _ (List.mem_of_getElem? (i := 461) (by decide +kernel))
theorem kv_T_exit : Cond.selects R_T y_T_exit y_T_exit ∈ lw_tbl := List.mem_append_right _ (List.mem_of_getElem? (i := 462) (by decide +kernel))
theorem kc_T_exit : w_T_exit ∈ lw_tbl := List.mem_append_right _ (List.mem_of_getElem? (i := 463) (by decide +kernel))
theorem k_T_72 : Cond.methodLink R_T 72 y_T_empty ∈ lw_tbl := List.mem_append_right _ (List.mem_of_getElem? (i := 464) (by decide +kernel))
theorem ki_T_empty : Cond.instanceMethod y_T_empty ∈ lw_tbl := List.mem_append_right _ (List.mem_of_getElem? (i := 466) (by decide +kernel))
theorem kc_T_empty : w_T_empty ∈ lw_tbl := List.mem_append_right _ (List.mem_of_getElem? (i := 467) (by decide +kernel))
theorem k_T_62 : Cond.methodLink R_T 62 y_T_owners ∈ lw_tbl := List.mem_append_right _ (List.mem_of_getElem? (i := 468) (by decide +kernel))
theorem ki_T_owners : Cond.instanceMethod y_T_owners ∈ lw_tbl := List.mem_append_right _ (List.mem_of_getElem? (i := 470) (by decide +kernel))
theorem kc_T_owners : w_T_owners ∈ lw_tbl := List.mem_append_right _ (List.mem_of_getElem? (i := 471) (by decide +kernel))
theorem k_L_71 : Cond.methodLink R_L 71 y_T_drop ∈ lw_tbl := List.mem_append_right _ (List.mem_of_getElem? (i := 472) (by decide +kernel))
theorem ki_T_drop : Cond.instanceMethod y_T_drop ∈ lw_tbl := List.mem_append_right _ (List.mem_of_getElem? (i := 473) (by decide +kernel))
theorem kv_T_drop : Cond.selects R_T y_T_drop y_T_drop ∈ lw_tbl := List.mem_append_right _ (List.mem_of_getElem? (i := 474) (by decide +kernel))
theorem kc_T_drop : w_T_drop ∈ lw_tbl := List.mem_append_right _ (List.mem_of_getElem? (i := 475) (by decide +kernel))
theorem k_L_74 : Cond.methodLink R_L 74 y_T_load ∈ lw_tbl := List.mem_append_right _ (List.mem_of_getElem? (i := 476) (by decide +kernel))
theorem ki_T_load : Cond.instanceMethod y_T_load ∈ lw_tbl := List.mem_append_right _ (List.mem_of_getElem? (i := 477) (by decide +kernel))
theorem kv_T_load : Cond.selects R_T y_T_load y_T_load ∈ lw_tbl := List.mem_append_right _ (List.mem_of_getElem? (i := 478) (by decide +kernel))
theorem kc_T_load : w_T_load ∈ lw_tbl := List.mem_append_right _ (List.mem_of_getElem? (i := 479) (by decide +kernel))
theorem k_T_87 : Cond.methodLink R_T 87 y_T_isAddress ∈ lw_tbl := List.mem_append_right _ (List.mem_of_getElem? (i := 480) (by decide +kernel))
theorem ks_T_isAddress : Cond.static y_T_isAddress ∈ lw_tbl := List.mem_append_right _ (List.mem_of_getElem? (i := 481) (by decide +kernel))
theorem kc_T_isAddress : w_T_isAddress ∈ lw_tbl := List.mem_append_right _ (List.mem_of_getElem? (i := 482) (by decide +kernel))
theorem k_T_90 : Cond.methodLink R_T 90 y_T_loaded ∈ lw_tbl := List.mem_append_right _ (List.mem_of_getElem? (i := 483) (by decide +kernel))
theorem ki_T_loaded : Cond.instanceMethod y_T_loaded ∈ lw_tbl := List.mem_append_right _ (List.mem_of_getElem? (i := 485) (by decide +kernel))
theorem kc_T_loaded : w_T_loaded ∈ lw_tbl := List.mem_append_right _ (List.mem_of_getElem? (i := 486) (by decide +kernel))
theorem k_T_75 : Cond.methodLink R_T 75 y_T_bringIn ∈ lw_tbl := List.mem_append_right _ (List.mem_of_getElem? (i := 487) (by decide +kernel))
theorem ki_T_bringIn : Cond.instanceMethod y_T_bringIn ∈ lw_tbl := List.mem_append_right _ (List.mem_of_getElem? (i := 489) (by decide +kernel))
theorem kc_T_bringIn : w_T_bringIn ∈ lw_tbl := List.mem_append_right _ (List.mem_of_getElem? (i := 490) (by decide +kernel))
theorem k_T_56 : Cond.methodLink R_T 56 y_T_getFrame ∈ lw_tbl := List.mem_append_right _ (List.mem_of_getElem? (i := 491) (by decide +kernel))
theorem ki_T_getFrame : Cond.instanceMethod y_T_getFrame ∈ lw_tbl := List.mem_append_right _ (List.mem_of_getElem? (i := 493) (by decide +kernel))
theorem kc_T_getFrame : w_T_getFrame ∈ lw_tbl := List.mem_append_right _ (List.mem_of_getElem? (i := 494) (by decide +kernel))
theorem k_T_43 : Cond.methodLink R_T 43 y_T_lowestFrame ∈ lw_tbl := List.mem_append_right _ (List.mem_of_getElem? (i := 495) (by decide +kernel))
theorem ki_T_lowestFrame : Cond.instanceMethod y_T_lowestFrame ∈ lw_tbl := List.mem_append_right _ (List.mem_of_getElem? (i := 497) (by decide +kernel))
theorem kc_T_lowestFrame : w_T_lowestFrame ∈ lw_tbl := List.mem_append_right _ (List.mem_of_getElem? (i := 498) (by decide +kernel))
theorem k_T_36 : Cond.methodLink R_T 36 y_T_sheetAt ∈ lw_tbl := List.mem_append_right _ (List.mem_of_getElem? (i := 499) (by decide +kernel))
theorem ki_T_sheetAt : Cond.instanceMethod y_T_sheetAt ∈ lw_tbl := List.mem_append_right _ (List.mem_of_getElem? (i := 501) (by decide +kernel))
theorem kc_T_sheetAt : w_T_sheetAt ∈ lw_tbl := List.mem_append_right _ (List.mem_of_getElem? (i := 502) (by decide +kernel))
theorem k_T_47 : Cond.methodLink R_T 47 y_T_turn ∈ lw_tbl := List.mem_append_right _ (List.mem_of_getElem? (i := 503) (by decide +kernel))
theorem ki_T_turn : Cond.instanceMethod y_T_turn ∈ lw_tbl := List.mem_append_right _ (List.mem_of_getElem? (i := 505) (by decide +kernel))
theorem kc_T_turn : w_T_turn ∈ lw_tbl := List.mem_append_right _ (List.mem_of_getElem? (i := 506) (by decide +kernel))
theorem k_T_50 : Cond.methodLink R_T 50 y_T_lowestSlot ∈ lw_tbl := List.mem_append_right _ (List.mem_of_getElem? (i := 507) (by decide +kernel))
theorem ki_T_lowestSlot : Cond.instanceMethod y_T_lowestSlot ∈ lw_tbl := List.mem_append_right _ (List.mem_of_getElem? (i := 509) (by decide +kernel))
theorem kc_T_lowestSlot : w_T_lowestSlot ∈ lw_tbl := List.mem_append_right _ (List.mem_of_getElem? (i := 510) (by decide +kernel))
theorem k_L_78 : Cond.methodLink R_L 78 y_T_store ∈ lw_tbl := List.mem_append_right _ (List.mem_of_getElem? (i := 511) (by decide +kernel))
theorem ki_T_store : Cond.instanceMethod y_T_store ∈ lw_tbl := List.mem_append_right _ (List.mem_of_getElem? (i := 512) (by decide +kernel))
theorem kv_T_store : Cond.selects R_T y_T_store y_T_store ∈ lw_tbl := List.mem_append_right _ (List.mem_of_getElem? (i := 513) (by decide +kernel))
theorem kc_T_store : w_T_store ∈ lw_tbl := List.mem_append_right _ (List.mem_of_getElem? (i := 514) (by decide +kernel))
theorem k_T_79 : Cond.methodLink R_T 79 y_T_needs ∈ lw_tbl := List.mem_append_right _ (List.mem_of_getElem? (i := 515) (by decide +kernel))
theorem ki_T_needs : Cond.instanceMethod y_T_needs ∈ lw_tbl := List.mem_append_right _ (List.mem_of_getElem? (i := 517) (by decide +kernel))
theorem kc_T_needs : w_T_needs ∈ lw_tbl := List.mem_append_right _ (List.mem_of_getElem? (i := 518) (by decide +kernel))
theorem k_T_94 : Cond.methodLink R_T 94 y_T_canMake ∈ lw_tbl := List.mem_append_right _ (List.mem_of_getElem? (i := 519) (by decide +kernel))
theorem ki_T_canMake : Cond.instanceMethod y_T_canMake ∈ lw_tbl := List.mem_append_right _ (List.mem_of_getElem? (i := 521) (by decide +kernel))
theorem kc_T_canMake : w_T_canMake ∈ lw_tbl := List.mem_append_right _ (List.mem_of_getElem? (i := 522) (by decide +kernel))
theorem k_T_98 : Cond.methodLink R_T 98 y_T_stored ∈ lw_tbl := List.mem_append_right _ (List.mem_of_getElem? (i := 523) (by decide +kernel))
theorem ki_T_stored : Cond.instanceMethod y_T_stored ∈ lw_tbl := List.mem_append_right _ (List.mem_of_getElem? (i := 525) (by decide +kernel))
theorem kc_T_stored : w_T_stored ∈ lw_tbl := List.mem_append_right _ (List.mem_of_getElem? (i := 526) (by decide +kernel))
theorem k_T_83 : Cond.methodLink R_T 83 y_T_make ∈ lw_tbl := List.mem_append_right _ (List.mem_of_getElem? (i := 527) (by decide +kernel))
theorem ki_T_make : Cond.instanceMethod y_T_make ∈ lw_tbl := List.mem_append_right _ (List.mem_of_getElem? (i := 529) (by decide +kernel))
theorem kc_T_make : w_T_make ∈ lw_tbl := List.mem_append_right _ (List.mem_of_getElem? (i := 530) (by decide +kernel))
theorem k_L_82 : Cond.methodLink R_L 82 y_T_copy ∈ lw_tbl := List.mem_append_right _ (List.mem_of_getElem? (i := 531) (by decide +kernel))
theorem ki_T_copy : Cond.instanceMethod y_T_copy ∈ lw_tbl := List.mem_append_right _ (List.mem_of_getElem? (i := 532) (by decide +kernel))
theorem kv_T_copy : Cond.selects R_T y_T_copy y_T_copy ∈ lw_tbl := List.mem_append_right _ (List.mem_of_getElem? (i := 533) (by decide +kernel))
theorem kc_T_copy : w_T_copy ∈ lw_tbl := List.mem_append_right _ (List.mem_of_getElem? (i := 534) (by decide +kernel))
theorem k_L_86 : Cond.methodLink R_L 86 y_T_copied ∈ lw_tbl := List.mem_append_right _ (List.mem_of_getElem? (i := 535) (by decide +kernel))
theorem ki_T_copied : Cond.instanceMethod y_T_copied ∈ lw_tbl := List.mem_append_right _ (List.mem_of_getElem? (i := 536) (by decide +kernel))
theorem kv_T_copied : Cond.selects R_T y_T_copied y_T_copied ∈ lw_tbl := List.mem_append_right _ (List.mem_of_getElem? (i := 537) (by decide +kernel))
theorem kc_T_copied : w_T_copied ∈ lw_tbl := List.mem_append_right _ (List.mem_of_getElem? (i := 538) (by decide +kernel))
theorem k_L_90 : Cond.methodLink R_L 90 y_T_where ∈ lw_tbl := List.mem_append_right _ (List.mem_of_getElem? (i := 539) (by decide +kernel))
theorem ki_T_where : Cond.instanceMethod y_T_where ∈ lw_tbl := List.mem_append_right _ (List.mem_of_getElem? (i := 540) (by decide +kernel))
theorem kv_T_where : Cond.selects R_T y_T_where y_T_where ∈ lw_tbl := List.mem_append_right _ (List.mem_of_getElem? (i := 541) (by decide +kernel))
theorem kc_T_where : w_T_where ∈ lw_tbl := List.mem_append_right _ (List.mem_of_getElem? (i := 542) (by decide +kernel))
theorem k_T_105 : Cond.methodLink R_T 105 y_T_sheetOf ∈ lw_tbl := List.mem_append_right _ (List.mem_of_getElem? (i := 543) (by decide +kernel))
theorem ki_T_sheetOf : Cond.instanceMethod y_T_sheetOf ∈ lw_tbl := List.mem_append_right _ (List.mem_of_getElem? (i := 545) (by decide +kernel))
theorem kc_T_sheetOf : w_T_sheetOf ∈ lw_tbl := List.mem_append_right _ (List.mem_of_getElem? (i := 546) (by decide +kernel))
theorem k_L_94 : Cond.methodLink R_L 94 y_T_sharers ∈ lw_tbl := List.mem_append_right _ (List.mem_of_getElem? (i := 547) (by decide +kernel))
theorem ki_T_sharers : Cond.instanceMethod y_T_sharers ∈ lw_tbl := List.mem_append_right _ (List.mem_of_getElem? (i := 548) (by decide +kernel))
theorem kv_T_sharers : Cond.selects R_T y_T_sharers y_T_sharers ∈ lw_tbl := List.mem_append_right _ (List.mem_of_getElem? (i := 549) (by decide +kernel))
theorem kc_T_sharers : w_T_sharers ∈ lw_tbl := List.mem_append_right _ (List.mem_of_getElem? (i := 550) (by decide +kernel))
theorem k_L_99 : Cond.methodLink R_L 99 y_T_isThere ∈ lw_tbl := List.mem_append_right _ (List.mem_of_getElem? (i := 551) (by decide +kernel))
theorem ki_T_isThere : Cond.instanceMethod y_T_isThere ∈ lw_tbl := List.mem_append_right _ (List.mem_of_getElem? (i := 552) (by decide +kernel))
theorem kv_T_isThere : Cond.selects R_T y_T_isThere y_T_isThere ∈ lw_tbl := List.mem_append_right _ (List.mem_of_getElem? (i := 553) (by decide +kernel))
theorem kc_T_isThere : w_T_isThere ∈ lw_tbl := List.mem_append_right _ (List.mem_of_getElem? (i := 554) (by decide +kernel))
theorem k_L_103 : Cond.methodLink R_L 103 y_T_marked ∈ lw_tbl := List.mem_append_right _ (List.mem_of_getElem? (i := 555) (by decide +kernel))
theorem ki_T_marked : Cond.instanceMethod y_T_marked ∈ lw_tbl := List.mem_append_right _ (List.mem_of_getElem? (i := 556) (by decide +kernel))
theorem kv_T_marked : Cond.selects R_T y_T_marked y_T_marked ∈ lw_tbl := List.mem_append_right _ (List.mem_of_getElem? (i := 557) (by decide +kernel))
theorem kc_T_marked : w_T_marked ∈ lw_tbl := List.mem_append_right _ (List.mem_of_getElem? (i := 558) (by decide +kernel))
theorem k_L_107 : Cond.methodLink R_L 107 y_T_hand ∈ lw_tbl := List.mem_append_right _ (List.mem_of_getElem? (i := 559) (by decide +kernel))
theorem ki_T_hand : Cond.instanceMethod y_T_hand ∈ lw_tbl := List.mem_append_right _ (List.mem_of_getElem? (i := 560) (by decide +kernel))
theorem kv_T_hand : Cond.selects R_T y_T_hand y_T_hand ∈ lw_tbl := List.mem_append_right _ (List.mem_of_getElem? (i := 561) (by decide +kernel))
theorem kc_T_hand : w_T_hand ∈ lw_tbl := List.mem_append_right _ (List.mem_of_getElem? (i := 562) (by decide +kernel))
theorem k_L_111 : Cond.methodLink R_L 111 y_T_freeFrames ∈ lw_tbl := List.mem_append_right _ (List.mem_of_getElem? (i := 563) (by decide +kernel))
theorem ki_T_freeFrames : Cond.instanceMethod y_T_freeFrames ∈ lw_tbl := List.mem_append_right _ (List.mem_of_getElem? (i := 564) (by decide +kernel))
theorem kv_T_freeFrames : Cond.selects R_T y_T_freeFrames y_T_freeFrames ∈ lw_tbl := List.mem_append_right _ (List.mem_of_getElem? (i := 565) (by decide +kernel))
theorem kc_T_freeFrames : w_T_freeFrames ∈ lw_tbl := List.mem_append_right _ (List.mem_of_getElem? (i := 566) (by decide +kernel))
theorem k_L_115 : Cond.methodLink R_L 115 y_T_freeSlots ∈ lw_tbl := List.mem_append_right _ (List.mem_of_getElem? (i := 567) (by decide +kernel))
theorem ki_T_freeSlots : Cond.instanceMethod y_T_freeSlots ∈ lw_tbl := List.mem_append_right _ (List.mem_of_getElem? (i := 568) (by decide +kernel))
theorem kv_T_freeSlots : Cond.selects R_T y_T_freeSlots y_T_freeSlots ∈ lw_tbl := List.mem_append_right _ (List.mem_of_getElem? (i := 569) (by decide +kernel))
theorem kc_T_freeSlots : w_T_freeSlots ∈ lw_tbl := List.mem_append_right _ (List.mem_of_getElem? (i := 570) (by decide +kernel))
theorem k_L_119 : Cond.methodLink R_L 119 y_T_faults ∈ lw_tbl := List.mem_append_right _ (List.mem_of_getElem? (i := 571) (by decide +kernel))
theorem ki_T_faults : Cond.instanceMethod y_T_faults ∈ lw_tbl := List.mem_append_right _ (List.mem_of_getElem? (i := 572) (by decide +kernel))
theorem kv_T_faults : Cond.selects R_T y_T_faults y_T_faults ∈ lw_tbl := List.mem_append_right _ (List.mem_of_getElem? (i := 573) (by decide +kernel))
theorem kc_T_faults : w_T_faults ∈ lw_tbl := List.mem_append_right _ (List.mem_of_getElem? (i := 574) (by decide +kernel))
theorem k_L_123 : Cond.methodLink R_L 123 y_T_evicted ∈ lw_tbl := List.mem_append_right _ (List.mem_of_getElem? (i := 575) (by decide +kernel))
theorem ki_T_evicted : Cond.instanceMethod y_T_evicted ∈ lw_tbl := List.mem_append_right _ (List.mem_of_getElem? (i := 576) (by decide +kernel))
theorem kv_T_evicted : Cond.selects R_T y_T_evicted y_T_evicted ∈ lw_tbl := List.mem_append_right _ (List.mem_of_getElem? (i := 577) (by decide +kernel))
theorem kc_T_evicted : w_T_evicted ∈ lw_tbl := List.mem_append_right _ (List.mem_of_getElem? (i := 578) (by decide +kernel))
theorem ka_long : Cond.arrayClass .long ∈ lw_tbl := List.mem_append_right _ (List.mem_of_getElem? (i := 579) (by decide +kernel))
theorem kv_X_sheetOf : Cond.selects R_X y_X_sheetOf y_X_sheetOf ∈ lw_tbl := List.mem_append_left _ (List.mem_of_getElem? (i := 0) (by decide +kernel))
theorem kv_X_lowestNotThere : Cond.selects R_X y_X_lowestNotThere y_X_lowestNotThere ∈ lw_tbl := List.mem_append_left _ (List.mem_of_getElem? (i := 1) (by decide +kernel))
theorem kv_X_requireProcess : Cond.selects R_X y_X_requireProcess y_X_requireProcess ∈ lw_tbl := List.mem_append_left _ (List.mem_of_getElem? (i := 3) (by decide +kernel))
theorem kv_X_emptyPage : Cond.selects R_X y_X_emptyPage y_X_emptyPage ∈ lw_tbl := List.mem_append_left _ (List.mem_of_getElem? (i := 4) (by decide +kernel))
theorem kv_M_freePlace : Cond.selects R_M y_M_freePlace y_M_freePlace ∈ lw_tbl := List.mem_append_left _ (List.mem_of_getElem? (i := 5) (by decide +kernel))
theorem kv_X_loadWord : Cond.selects R_X y_X_loadWord y_X_loadWord ∈ lw_tbl := List.mem_append_left _ (List.mem_of_getElem? (i := 6) (by decide +kernel))
theorem kv_M_touch : Cond.selects R_M y_M_touch y_M_touch ∈ lw_tbl := List.mem_append_left _ (List.mem_of_getElem? (i := 7) (by decide +kernel))
theorem kv_M_bringIn : Cond.selects R_M y_M_bringIn y_M_bringIn ∈ lw_tbl := List.mem_append_left _ (List.mem_of_getElem? (i := 8) (by decide +kernel))
theorem kv_M_getFrame : Cond.selects R_M y_M_getFrame y_M_getFrame ∈ lw_tbl := List.mem_append_left _ (List.mem_of_getElem? (i := 9) (by decide +kernel))
theorem kv_M_evictInto : Cond.selects R_M y_M_evictInto y_M_evictInto ∈ lw_tbl := List.mem_append_left _ (List.mem_of_getElem? (i := 10) (by decide +kernel))
theorem kv_M_moveHand : Cond.selects R_M y_M_moveHand y_M_moveHand ∈ lw_tbl := List.mem_append_left _ (List.mem_of_getElem? (i := 11) (by decide +kernel))
theorem kv_M_layIntoFrame : Cond.selects R_M y_M_layIntoFrame y_M_layIntoFrame ∈ lw_tbl := List.mem_append_left _ (List.mem_of_getElem? (i := 12) (by decide +kernel))
theorem kv_X_storeWord : Cond.selects R_X y_X_storeWord y_X_storeWord ∈ lw_tbl := List.mem_append_left _ (List.mem_of_getElem? (i := 13) (by decide +kernel))
theorem kv_X_giveOwnSheet : Cond.selects R_X y_X_giveOwnSheet y_X_giveOwnSheet ∈ lw_tbl := List.mem_append_left _ (List.mem_of_getElem? (i := 14) (by decide +kernel))
theorem kv_T_lowestProcess : Cond.selects R_T y_T_lowestProcess y_T_lowestProcess ∈ lw_tbl := List.mem_append_left _ (List.mem_of_getElem? (i := 15) (by decide +kernel))
theorem kv_T_isProcess : Cond.selects R_T y_T_isProcess y_T_isProcess ∈ lw_tbl := List.mem_append_left _ (List.mem_of_getElem? (i := 16) (by decide +kernel))
theorem kv_T_empty : Cond.selects R_T y_T_empty y_T_empty ∈ lw_tbl := List.mem_append_left _ (List.mem_of_getElem? (i := 17) (by decide +kernel))
theorem kv_T_owners : Cond.selects R_T y_T_owners y_T_owners ∈ lw_tbl := List.mem_append_left _ (List.mem_of_getElem? (i := 18) (by decide +kernel))
theorem kv_T_loaded : Cond.selects R_T y_T_loaded y_T_loaded ∈ lw_tbl := List.mem_append_left _ (List.mem_of_getElem? (i := 19) (by decide +kernel))
theorem kv_T_bringIn : Cond.selects R_T y_T_bringIn y_T_bringIn ∈ lw_tbl := List.mem_append_left _ (List.mem_of_getElem? (i := 20) (by decide +kernel))
theorem kv_T_getFrame : Cond.selects R_T y_T_getFrame y_T_getFrame ∈ lw_tbl := List.mem_append_left _ (List.mem_of_getElem? (i := 21) (by decide +kernel))
theorem kv_T_lowestFrame : Cond.selects R_T y_T_lowestFrame y_T_lowestFrame ∈ lw_tbl := List.mem_append_left _ (List.mem_of_getElem? (i := 22) (by decide +kernel))
theorem kv_T_sheetAt : Cond.selects R_T y_T_sheetAt y_T_sheetAt ∈ lw_tbl := List.mem_append_left _ (List.mem_of_getElem? (i := 23) (by decide +kernel))
theorem kv_T_turn : Cond.selects R_T y_T_turn y_T_turn ∈ lw_tbl := List.mem_append_left _ (List.mem_of_getElem? (i := 24) (by decide +kernel))
theorem kv_T_lowestSlot : Cond.selects R_T y_T_lowestSlot y_T_lowestSlot ∈ lw_tbl := List.mem_append_left _ (List.mem_of_getElem? (i := 25) (by decide +kernel))
theorem kv_T_needs : Cond.selects R_T y_T_needs y_T_needs ∈ lw_tbl := List.mem_append_left _ (List.mem_of_getElem? (i := 26) (by decide +kernel))
theorem kv_T_canMake : Cond.selects R_T y_T_canMake y_T_canMake ∈ lw_tbl := List.mem_append_left _ (List.mem_of_getElem? (i := 27) (by decide +kernel))
theorem kv_T_stored : Cond.selects R_T y_T_stored y_T_stored ∈ lw_tbl := List.mem_append_left _ (List.mem_of_getElem? (i := 28) (by decide +kernel))
theorem kv_T_make : Cond.selects R_T y_T_make y_T_make ∈ lw_tbl := List.mem_append_left _ (List.mem_of_getElem? (i := 29) (by decide +kernel))
theorem kv_T_sheetOf : Cond.selects R_T y_T_sheetOf y_T_sheetOf ∈ lw_tbl := List.mem_append_left _ (List.mem_of_getElem? (i := 30) (by decide +kernel))
