/-! Names, printed by a program of mine out of the tables' words and javap's listing: classes, methods, words. -/
abbrev pmM : Type := MethodName × ByteArray × Nat × Option FieldType × Nat
def pmMv (w : Jvm.Cond) : Bool := match w with
  | .fieldLinkNest .. => true
  | .methodLinkNest .. => true
  | .arrayOver (.object _) => true
  | w => goodWord w
def pmWs : List Jvm.Cond := lw_tbl.filter pmMv
theorem pmWs_ok : ∀ w ∈ pmWs, pmMv w = true := fun w h => (List.mem_filter.mp h).2
theorem pmWs_in {w : Jvm.Cond} (h : w ∈ tables_1) (hm : pmMv w = true) : w ∈ pmWs := List.mem_filter.mpr ⟨List.mem_append_right _ h, hm⟩
theorem pmWs_1 {w : Jvm.Cond} (h : w ∈ tables_1_1) (hm : pmMv w = true) : w ∈ pmWs := pmWs_in (List.mem_append_left _ h) hm
theorem pmWs_2 {w : Jvm.Cond} (h : w ∈ tables_1_2) (hm : pmMv w = true) : w ∈ pmWs := pmWs_in (List.mem_append_right _ (List.mem_append_left _ h)) hm
theorem pmWs_3 {w : Jvm.Cond} (h : w ∈ tables_1_3) (hm : pmMv w = true) : w ∈ pmWs := pmWs_in (List.mem_append_right _ (List.mem_append_right _ (List.mem_append_left _ h))) hm
theorem pmWs_4 {w : Jvm.Cond} (h : w ∈ tables_1_4) (hm : pmMv w = true) : w ∈ pmWs := pmWs_in (List.mem_append_right _ (List.mem_append_right _ (List.mem_append_right _ h))) hm
theorem pmWs_s {q : MethodName × Nat} (h : q ∈ lw_privs) : Jvm.Cond.selects q.1.cls q.1 q.1 ∈ pmWs := List.mem_filter.mpr ⟨List.mem_append_left _ (List.mem_map.mpr ⟨q, h, rfl⟩), rfl⟩
def T_HE : u_T := fun k => match k with
  | 0 => ("HotEditions", "draft", "LHotEditions$Definition;", true)
  | 1 => ("HotEditions", "chosen", "I", false)
  | 2 => ("HotEditions", "shelf", "LHotEditions$Shelf;", true)
  | 3 => ("HotEditions", "chain", "LHotEditions$Chain;", true)
  | 4 => ("HotEditions", "batch", "[LHotEditions$Trial;", true)
  | 5 => ("HotEditions", "batchSize", "I", false)
  | 6 => ("HotEditions", "single", "LHotEditions$Trial;", true)
  | _ => ("HotEditions", "threads", "[LHotEditions$Calls;", true)
def t_HE : Nat → FieldType := fun k => match k with
  | 0 => (.object "HotEditions$Definition")
  | 1 => .int
  | 2 => (.object "HotEditions$Shelf")
  | 3 => (.object "HotEditions$Chain")
  | 4 => (.array (.object "HotEditions$Trial"))
  | 5 => .int
  | 6 => (.object "HotEditions$Trial")
  | _ => (.array (.object "HotEditions$Calls"))
theorem nm_HE : ∀ a, a < 8 → ∀ b, b < 8 → a ≠ b → (T_HE a).2.1 ≠ (T_HE b).2.1 := by decide +kernel
theorem ty_HE : ∀ k, k < 8 → parseFieldDescriptor (T_HE k).2.2.1 = some (t_HE k) := by decide +kernel
def T_Mo : u_T := fun k => match k with
  | 0 => ("HotEditionsModel", "cell", "[I", true)
  | 1 => ("HotEditionsModel", "chosen", "I", false)
  | 2 => ("HotEditionsModel", "current", "[I", true)
  | 3 => ("HotEditionsModel", "numbers", "[I", true)
  | 4 => ("HotEditionsModel", "numberOf", "[I", true)
  | 5 => ("HotEditionsModel", "classOf", "[I", true)
  | 6 => ("HotEditionsModel", "taken", "[Z", true)
  | 7 => ("HotEditionsModel", "kind", "[I", true)
  | 8 => ("HotEditionsModel", "value", "[I", true)
  | 9 => ("HotEditionsModel", "only", "[I", true)
  | 10 => ("HotEditionsModel", "repeats", "[Z", true)
  | 11 => ("HotEditionsModel", "batch", "I", false)
  | 12 => ("HotEditionsModel", "meant", "[I", true)
  | 13 => ("HotEditionsModel", "depth", "[I", true)
  | 14 => ("HotEditionsModel", "frameRow", "[I", true)
  | 15 => ("HotEditionsModel", "frameMethod", "[I", true)
  | 16 => ("HotEditionsModel", "place", "[I", true)
  | 17 => ("HotEditionsModel", "sum", "[I", true)
  | _ => ("HotEditionsModel", "results", "[I", true)
def t_Mo : Nat → FieldType := fun k => match k with
  | 0 => (.array .int)
  | 1 => .int
  | 2 => (.array .int)
  | 3 => (.array .int)
  | 4 => (.array .int)
  | 5 => (.array .int)
  | 6 => (.array .boolean)
  | 7 => (.array .int)
  | 8 => (.array .int)
  | 9 => (.array .int)
  | 10 => (.array .boolean)
  | 11 => .int
  | 12 => (.array .int)
  | 13 => (.array .int)
  | 14 => (.array .int)
  | 15 => (.array .int)
  | 16 => (.array .int)
  | 17 => (.array .int)
  | _ => (.array .int)
theorem nm_Mo : ∀ a, a < 19 → ∀ b, b < 19 → a ≠ b → (T_Mo a).2.1 ≠ (T_Mo b).2.1 := by decide +kernel
theorem ty_Mo : ∀ k, k < 19 → parseFieldDescriptor (T_Mo k).2.2.1 = some (t_Mo k) := by decide +kernel
def T_Cl : u_T := fun k => match k with
  | 0 => ("HotEditions$Calls", "frames", "[LHotEditions$Frame;", true)
  | 1 => ("HotEditions$Calls", "depth", "I", false)
  | _ => ("HotEditions$Calls", "result", "I", false)
def t_Cl : Nat → FieldType := fun k => match k with
  | 0 => (.array (.object "HotEditions$Frame"))
  | 1 => .int
  | _ => .int
theorem nm_Cl : ∀ a, a < 3 → ∀ b, b < 3 → a ≠ b → (T_Cl a).2.1 ≠ (T_Cl b).2.1 := by decide +kernel
theorem ty_Cl : ∀ k, k < 3 → parseFieldDescriptor (T_Cl k).2.2.1 = some (t_Cl k) := by decide +kernel
def T_Ch : u_T := fun k => match k with
  | _ => ("HotEditions$Chain", "links", "[LHotEditions$Transformer;", true)
def t_Ch : Nat → FieldType := fun k => match k with
  | _ => (.array (.object "HotEditions$Transformer"))
theorem nm_Ch : ∀ a, a < 1 → ∀ b, b < 1 → a ≠ b → (T_Ch a).2.1 ≠ (T_Ch b).2.1 := by decide +kernel
theorem ty_Ch : ∀ k, k < 1 → parseFieldDescriptor (T_Ch k).2.2.1 = some (t_Ch k) := by decide +kernel
def T_Cd : u_T := fun k => match k with
  | 0 => ("HotEditions$Code", "cells", "[I", true)
  | _ => ("HotEditions$Code", "length", "I", false)
def t_Cd : Nat → FieldType := fun k => match k with
  | 0 => (.array .int)
  | _ => .int
theorem nm_Cd : ∀ a, a < 2 → ∀ b, b < 2 → a ≠ b → (T_Cd a).2.1 ≠ (T_Cd b).2.1 := by decide +kernel
theorem ty_Cd : ∀ k, k < 2 → parseFieldDescriptor (T_Cd k).2.2.1 = some (t_Cd k) := by decide +kernel
def T_Df : u_T := fun k => match k with
  | 0 => ("HotEditions$Definition", "parts", "[I", true)
  | 1 => ("HotEditions$Definition", "interfaces", "[I", true)
  | 2 => ("HotEditions$Definition", "interfaceCount", "I", false)
  | 3 => ("HotEditions$Definition", "fieldCells", "[I", true)
  | 4 => ("HotEditions$Definition", "fieldCount", "I", false)
  | 5 => ("HotEditions$Definition", "methods", "[LHotEditions$Method;", true)
  | _ => ("HotEditions$Definition", "methodCount", "I", false)
def t_Df : Nat → FieldType := fun k => match k with
  | 0 => (.array .int)
  | 1 => (.array .int)
  | 2 => .int
  | 3 => (.array .int)
  | 4 => .int
  | 5 => (.array (.object "HotEditions$Method"))
  | _ => .int
theorem nm_Df : ∀ a, a < 7 → ∀ b, b < 7 → a ≠ b → (T_Df a).2.1 ≠ (T_Df b).2.1 := by decide +kernel
theorem ty_Df : ∀ k, k < 7 → parseFieldDescriptor (T_Df k).2.2.1 = some (t_Df k) := by decide +kernel
def T_Fr : u_T := fun k => match k with
  | 0 => ("HotEditions$Frame", "ofClass", "I", false)
  | 1 => ("HotEditions$Frame", "edition", "I", false)
  | 2 => ("HotEditions$Frame", "body", "LHotEditions$Code;", true)
  | 3 => ("HotEditions$Frame", "place", "I", false)
  | _ => ("HotEditions$Frame", "sum", "I", false)
def t_Fr : Nat → FieldType := fun k => match k with
  | 0 => .int
  | 1 => .int
  | 2 => (.object "HotEditions$Code")
  | 3 => .int
  | _ => .int
theorem nm_Fr : ∀ a, a < 5 → ∀ b, b < 5 → a ≠ b → (T_Fr a).2.1 ≠ (T_Fr b).2.1 := by decide +kernel
theorem ty_Fr : ∀ k, k < 5 → parseFieldDescriptor (T_Fr k).2.2.1 = some (t_Fr k) := by decide +kernel
def T_Lc : u_T := fun k => match k with
  | 0 => ("HotEditions$LoadedClass", "edition", "I", false)
  | 1 => ("HotEditions$LoadedClass", "current", "LHotEditions$Definition;", true)
  | _ => ("HotEditions$LoadedClass", "original", "LHotEditions$Definition;", true)
def t_Lc : Nat → FieldType := fun k => match k with
  | 0 => .int
  | 1 => (.object "HotEditions$Definition")
  | _ => (.object "HotEditions$Definition")
theorem nm_Lc : ∀ a, a < 3 → ∀ b, b < 3 → a ≠ b → (T_Lc a).2.1 ≠ (T_Lc b).2.1 := by decide +kernel
theorem ty_Lc : ∀ k, k < 3 → parseFieldDescriptor (T_Lc k).2.2.1 = some (t_Lc k) := by decide +kernel
def T_Mt : u_T := fun k => match k with
  | 0 => ("HotEditions$Method", "name", "I", false)
  | 1 => ("HotEditions$Method", "flags", "I", false)
  | _ => ("HotEditions$Method", "body", "LHotEditions$Code;", true)
def t_Mt : Nat → FieldType := fun k => match k with
  | 0 => .int
  | 1 => .int
  | _ => (.object "HotEditions$Code")
theorem nm_Mt : ∀ a, a < 3 → ∀ b, b < 3 → a ≠ b → (T_Mt a).2.1 ≠ (T_Mt b).2.1 := by decide +kernel
theorem ty_Mt : ∀ k, k < 3 → parseFieldDescriptor (T_Mt k).2.2.1 = some (t_Mt k) := by decide +kernel
def T_Sh : u_T := fun k => match k with
  | _ => ("HotEditions$Shelf", "places", "[LHotEditions$LoadedClass;", true)
def t_Sh : Nat → FieldType := fun k => match k with
  | _ => (.array (.object "HotEditions$LoadedClass"))
theorem nm_Sh : ∀ a, a < 1 → ∀ b, b < 1 → a ≠ b → (T_Sh a).2.1 ≠ (T_Sh b).2.1 := by decide +kernel
theorem ty_Sh : ∀ k, k < 1 → parseFieldDescriptor (T_Sh k).2.2.1 = some (t_Sh k) := by decide +kernel
def T_Tf : u_T := fun k => match k with
  | 0 => ("HotEditions$Transformer", "present", "Z", false)
  | 1 => ("HotEditions$Transformer", "kind", "I", false)
  | 2 => ("HotEditions$Transformer", "value", "I", false)
  | 3 => ("HotEditions$Transformer", "only", "I", false)
  | _ => ("HotEditions$Transformer", "repeats", "Z", false)
def t_Tf : Nat → FieldType := fun k => match k with
  | 0 => .boolean
  | 1 => .int
  | 2 => .int
  | 3 => .int
  | _ => .boolean
theorem nm_Tf : ∀ a, a < 5 → ∀ b, b < 5 → a ≠ b → (T_Tf a).2.1 ≠ (T_Tf b).2.1 := by decide +kernel
theorem ty_Tf : ∀ k, k < 5 → parseFieldDescriptor (T_Tf k).2.2.1 = some (t_Tf k) := by decide +kernel
def T_Tr : u_T := fun k => match k with
  | 0 => ("HotEditions$Trial", "target", "I", false)
  | 1 => ("HotEditions$Trial", "form", "LHotEditions$Definition;", true)
  | _ => ("HotEditions$Trial", "original", "LHotEditions$Definition;", true)
def t_Tr : Nat → FieldType := fun k => match k with
  | 0 => .int
  | 1 => (.object "HotEditions$Definition")
  | _ => (.object "HotEditions$Definition")
theorem nm_Tr : ∀ a, a < 3 → ∀ b, b < 3 → a ≠ b → (T_Tr a).2.1 ≠ (T_Tr b).2.1 := by decide +kernel
theorem ty_Tr : ∀ k, k < 3 → parseFieldDescriptor (T_Tr k).2.2.1 = some (t_Tr k) := by decide +kernel
abbrev pmCl : List vw_C := [("HotEditions", T_HE, 8), ("HotEditionsModel", T_Mo, 19), ("HotEditions$Calls", T_Cl, 3), ("HotEditions$Chain", T_Ch, 1), ("HotEditions$Code", T_Cd, 2), ("HotEditions$Definition", T_Df, 7), ("HotEditions$Frame", T_Fr, 5), ("HotEditions$LoadedClass", T_Lc, 3), ("HotEditions$Method", T_Mt, 3), ("HotEditions$Shelf", T_Sh, 1), ("HotEditions$Transformer", T_Tf, 5), ("HotEditions$Trial", T_Tr, 3)]
abbrev kHE : Nat := 0
abbrev kMo : Nat := 1
abbrev kCl : Nat := 2
abbrev kCh : Nat := 3
abbrev kCd : Nat := 4
abbrev kDf : Nat := 5
abbrev kFr : Nat := 6
abbrev kLc : Nat := 7
abbrev kMt : Nat := 8
abbrev kSh : Nat := 9
abbrev kTf : Nat := 10
abbrev kTr : Nat := 11
def pmTy : Nat → Option FieldType := fun k => match k with
  | 0 => some .int
  | 1 => some .boolean
  | 10 => some (.object "HotEditions$Method")
  | 9 => some (.object "HotEditions$LoadedClass")
  | 12 => some (.object "HotEditions$Transformer")
  | 13 => some (.object "HotEditions$Trial")
  | 4 => some (.object "HotEditions$Calls")
  | 8 => some (.object "HotEditions$Frame")
  | _ => none
def m_HE_init : pmM := (⟨"HotEditions", "<init>", "()V"⟩, prog_1_method_1_code, 2, none, 5)
def m_HE_blank : pmM := (⟨"HotEditions", "blank", "()V"⟩, prog_1_method_2_code, 1, none, 2)
def m_HE_copy : pmM := (⟨"HotEditions", "copy", "(I)Z"⟩, prog_1_method_3_code, 3, some FieldType.boolean, 4)
def m_HE_set : pmM := (⟨"HotEditions", "set", "(II)Z"⟩, prog_1_method_4_code, 3, some FieldType.boolean, 1)
def m_HE_implement : pmM := (⟨"HotEditions", "implement", "(I)Z"⟩, prog_1_method_5_code, 2, some FieldType.boolean, 2)
def m_HE_field : pmM := (⟨"HotEditions", "field", "(III)Z"⟩, prog_1_method_6_code, 4, some FieldType.boolean, 2)
def m_HE_method : pmM := (⟨"HotEditions", "method", "(II)Z"⟩, prog_1_method_7_code, 3, some FieldType.boolean, 3)
def m_HE_choose : pmM := (⟨"HotEditions", "choose", "(I)Z"⟩, prog_1_method_8_code, 2, some FieldType.boolean, 2)
def m_HE_code : pmM := (⟨"HotEditions", "code", "(III)Z"⟩, prog_1_method_9_code, 4, some FieldType.boolean, 2)
def m_HE_load : pmM := (⟨"HotEditions", "load", "()I"⟩, prog_1_method_10_code, 3, some FieldType.int, 6)
def m_HE_transformer : pmM := (⟨"HotEditions", "transformer", "(IIIZ)I"⟩, prog_1_method_11_code, 5, some FieldType.int, 2)
def m_HE_remove : pmM := (⟨"HotEditions", "remove", "(I)Z"⟩, prog_1_method_12_code, 2, some FieldType.boolean, 2)
def m_HE_queue : pmM := (⟨"HotEditions", "queue", "(I)Z"⟩, prog_1_method_13_code, 2, some FieldType.boolean, 5)
def m_HE_swap : pmM := (⟨"HotEditions", "swap", "()I"⟩, prog_1_method_14_code, 2, some FieldType.int, 7)
def m_HE_repeat : pmM := (⟨"HotEditions", "repeat", "(I)I"⟩, prog_1_method_15_code, 4, some FieldType.int, 6)
def m_HE_start : pmM := (⟨"HotEditions", "start", "(III)Z"⟩, prog_1_method_16_code, 4, some FieldType.boolean, 4)
def m_HE_step : pmM := (⟨"HotEditions", "step", "(II)I"⟩, prog_1_method_17_code, 4, some FieldType.int, 5)
def m_HE_frame : pmM := (⟨"HotEditions", "frame", "(II)I"⟩, prog_1_method_18_code, 4, some FieldType.int, 3)
def m_HE_result : pmM := (⟨"HotEditions", "result", "(I)I"⟩, prog_1_method_19_code, 2, some FieldType.int, 2)
def m_HE_edition : pmM := (⟨"HotEditions", "edition", "(I)I"⟩, prog_1_method_20_code, 3, some FieldType.int, 2)
def m_HE_kept : pmM := (⟨"HotEditions", "kept", "(I)I"⟩, prog_1_method_21_code, 7, some FieldType.int, 4)
def m_HE_isClass : pmM := (⟨"HotEditions", "isClass", "(I)Z"⟩, prog_1_method_22_code, 1, some FieldType.boolean, 1)
def m_HE_isThread : pmM := (⟨"HotEditions", "isThread", "(I)Z"⟩, prog_1_method_23_code, 1, some FieldType.boolean, 1)
def m_HE_isInBatch : pmM := (⟨"HotEditions", "isInBatch", "(I)Z"⟩, prog_1_method_24_code, 3, some FieldType.boolean, 1)
def m_HE_firstBrokenOfBatch : pmM := (⟨"HotEditions", "firstBrokenOfBatch", "()I"⟩, prog_1_method_25_code, 5, some FieldType.int, 6)
def m_HE_installBatch : pmM := (⟨"HotEditions", "installBatch", "()V"⟩, prog_1_method_26_code, 3, none, 5)
def m_HE_findFrame : pmM := (⟨"HotEditions", "findFrame", "(II)LHotEditions$Frame;"⟩, prog_1_method_27_code, 3, some (FieldType.object "HotEditions$Frame"), 2)
def m_HE_isFirstOfItsEdition : pmM := (⟨"HotEditions", "isFirstOfItsEdition", "(IILHotEditions$Frame;)Z"⟩, prog_1_method_28_code, 6, some FieldType.boolean, 3)
def m_Mo_init : pmM := (⟨"HotEditionsModel", "<init>", "()V"⟩, prog_14_method_1_code, 1, none, 3)
def m_Mo_get : pmM := (⟨"HotEditionsModel", "get", "(II)I"⟩, prog_14_method_2_code, 3, some FieldType.int, 1)
def m_Mo_put : pmM := (⟨"HotEditionsModel", "put", "(III)V"⟩, prog_14_method_3_code, 4, none, 1)
def m_Mo_transcribe : pmM := (⟨"HotEditionsModel", "transcribe", "(II)V"⟩, prog_14_method_4_code, 4, none, 2)
def m_Mo_loaded : pmM := (⟨"HotEditionsModel", "loaded", "(I)Z"⟩, prog_14_method_5_code, 2, some FieldType.boolean, 1)
def m_Mo_blank : pmM := (⟨"HotEditionsModel", "blank", "()V"⟩, prog_14_method_6_code, 2, none, 2)
def m_Mo_copy : pmM := (⟨"HotEditionsModel", "copy", "(I)Z"⟩, prog_14_method_7_code, 2, some FieldType.boolean, 3)
def m_Mo_set : pmM := (⟨"HotEditionsModel", "set", "(II)Z"⟩, prog_14_method_8_code, 3, some FieldType.boolean, 2)
def m_Mo_implement : pmM := (⟨"HotEditionsModel", "implement", "(I)Z"⟩, prog_14_method_9_code, 3, some FieldType.boolean, 2)
def m_Mo_field : pmM := (⟨"HotEditionsModel", "field", "(III)Z"⟩, prog_14_method_10_code, 5, some FieldType.boolean, 2)
def m_Mo_methodAt : pmM := (⟨"HotEditionsModel", "methodAt", "(I)I"⟩, prog_14_method_11_code, 1, some FieldType.int, 1)
def m_Mo_method : pmM := (⟨"HotEditionsModel", "method", "(II)Z"⟩, prog_14_method_12_code, 4, some FieldType.boolean, 2)
def m_Mo_choose : pmM := (⟨"HotEditionsModel", "choose", "(I)Z"⟩, prog_14_method_13_code, 2, some FieldType.boolean, 2)
def m_Mo_code : pmM := (⟨"HotEditionsModel", "code", "(III)Z"⟩, prog_14_method_14_code, 6, some FieldType.boolean, 2)
def m_Mo_transformer : pmM := (⟨"HotEditionsModel", "transformer", "(IIIZ)I"⟩, prog_14_method_15_code, 6, some FieldType.int, 1)
def m_Mo_remove : pmM := (⟨"HotEditionsModel", "remove", "(I)Z"⟩, prog_14_method_16_code, 2, some FieldType.boolean, 1)
def m_Mo_find : pmM := (⟨"HotEditionsModel", "find", "(II)I"⟩, prog_14_method_17_code, 4, some FieldType.int, 2)
def m_Mo_change : pmM := (⟨"HotEditionsModel", "change", "(II)V"⟩, prog_14_method_18_code, 8, none, 3)
def m_Mo_changes : pmM := (⟨"HotEditionsModel", "changes", "(IIZ)V"⟩, prog_14_method_19_code, 5, none, 4)
def m_Mo_treat : pmM := (⟨"HotEditionsModel", "treat", "(III)V"⟩, prog_14_method_20_code, 4, none, 5)
def m_Mo_twice : pmM := (⟨"HotEditionsModel", "twice", "(IIII)Z"⟩, prog_14_method_21_code, 8, some FieldType.boolean, 2)
def m_Mo_strangeOp : pmM := (⟨"HotEditionsModel", "strangeOp", "(I)Z"⟩, prog_14_method_22_code, 7, some FieldType.boolean, 2)
def m_Mo_circle : pmM := (⟨"HotEditionsModel", "circle", "(I)Z"⟩, prog_14_method_23_code, 6, some FieldType.boolean, 2)
def m_Mo_callsNothing : pmM := (⟨"HotEditionsModel", "callsNothing", "(I)Z"⟩, prog_14_method_24_code, 9, some FieldType.boolean, 3)
def m_Mo_plainRules : pmM := (⟨"HotEditionsModel", "plainRules", "(I)I"⟩, prog_14_method_25_code, 4, some FieldType.int, 4)
def m_Mo_otherInterfaces : pmM := (⟨"HotEditionsModel", "otherInterfaces", "(II)Z"⟩, prog_14_method_26_code, 7, some FieldType.boolean, 2)
def m_Mo_otherFields : pmM := (⟨"HotEditionsModel", "otherFields", "(II)Z"⟩, prog_14_method_27_code, 5, some FieldType.boolean, 2)
def m_Mo_moreMethods : pmM := (⟨"HotEditionsModel", "moreMethods", "(II)Z"⟩, prog_14_method_28_code, 5, some FieldType.boolean, 3)
def m_Mo_otherMethodFlags : pmM := (⟨"HotEditionsModel", "otherMethodFlags", "(II)Z"⟩, prog_14_method_29_code, 7, some FieldType.boolean, 3)
def m_Mo_rules : pmM := (⟨"HotEditionsModel", "rules", "(II)I"⟩, prog_14_method_30_code, 5, some FieldType.int, 5)
def m_Mo_inFrames : pmM := (⟨"HotEditionsModel", "inFrames", "(I)Z"⟩, prog_14_method_31_code, 5, some FieldType.boolean, 1)
def m_Mo_inUse : pmM := (⟨"HotEditionsModel", "inUse", "(I)Z"⟩, prog_14_method_32_code, 4, some FieldType.boolean, 2)
def m_Mo_renew : pmM := (⟨"HotEditionsModel", "renew", "(II)V"⟩, prog_14_method_33_code, 4, none, 3)
def m_Mo_load : pmM := (⟨"HotEditionsModel", "load", "()I"⟩, prog_14_method_34_code, 3, some FieldType.int, 6)
def m_Mo_queue : pmM := (⟨"HotEditionsModel", "queue", "(I)Z"⟩, prog_14_method_35_code, 3, some FieldType.boolean, 3)
def m_Mo_swap : pmM := (⟨"HotEditionsModel", "swap", "()I"⟩, prog_14_method_36_code, 4, some FieldType.int, 6)
def m_Mo_repeat : pmM := (⟨"HotEditionsModel", "repeat", "(I)I"⟩, prog_14_method_37_code, 3, some FieldType.int, 6)
def m_Mo_push : pmM := (⟨"HotEditionsModel", "push", "(III)V"⟩, prog_14_method_38_code, 5, none, 3)
def m_Mo_isThread : pmM := (⟨"HotEditionsModel", "isThread", "(I)Z"⟩, prog_14_method_39_code, 1, some FieldType.boolean, 1)
def m_Mo_start : pmM := (⟨"HotEditionsModel", "start", "(III)Z"⟩, prog_14_method_40_code, 4, some FieldType.boolean, 4)
def m_Mo_once : pmM := (⟨"HotEditionsModel", "once", "(I)V"⟩, prog_14_method_41_code, 8, none, 4)
def m_Mo_step : pmM := (⟨"HotEditionsModel", "step", "(II)I"⟩, prog_14_method_42_code, 4, some FieldType.int, 5)
def m_Mo_frame : pmM := (⟨"HotEditionsModel", "frame", "(II)I"⟩, prog_14_method_43_code, 4, some FieldType.int, 2)
def m_Mo_result : pmM := (⟨"HotEditionsModel", "result", "(I)I"⟩, prog_14_method_44_code, 2, some FieldType.int, 2)
def m_Mo_edition : pmM := (⟨"HotEditionsModel", "edition", "(I)I"⟩, prog_14_method_45_code, 2, some FieldType.int, 2)
def m_Mo_kept : pmM := (⟨"HotEditionsModel", "kept", "(I)I"⟩, prog_14_method_46_code, 4, some FieldType.int, 3)
def m_Cl_init : pmM := (⟨"HotEditions$Calls", "<init>", "()V"⟩, prog_2_method_1_code, 2, none, 3)
def m_Cl_enter : pmM := (⟨"HotEditions$Calls", "enter", "(IILHotEditions$Shelf;)Z"⟩, prog_2_method_2_code, 6, some FieldType.boolean, 3)
def m_Cl_advance : pmM := (⟨"HotEditions$Calls", "advance", "(LHotEditions$Shelf;)V"⟩, prog_2_method_3_code, 4, none, 4)
def m_Cl_leave : pmM := (⟨"HotEditions$Calls", "leave", "(I)V"⟩, prog_2_method_4_code, 2, none, 1)
def m_Ch_init : pmM := (⟨"HotEditions$Chain", "<init>", "()V"⟩, prog_3_method_1_code, 2, none, 2)
def m_Ch_put : pmM := (⟨"HotEditions$Chain", "put", "(IIIZ)I"⟩, prog_3_method_2_code, 7, some FieldType.int, 1)
def m_Ch_free : pmM := (⟨"HotEditions$Chain", "free", "(I)Z"⟩, prog_3_method_3_code, 2, some FieldType.boolean, 1)
def m_Ch_treat : pmM := (⟨"HotEditions$Chain", "treat", "(LHotEditions$Trial;)V"⟩, prog_3_method_4_code, 2, none, 5)
def m_Ch_change : pmM := (⟨"HotEditions$Chain", "change", "(LHotEditions$Definition;IZ)V"⟩, prog_3_method_5_code, 6, none, 4)
def m_Cd_init : pmM := (⟨"HotEditions$Code", "<init>", "()V"⟩, prog_4_method_1_code, 1, none, 1)
def m_Cd_clear : pmM := (⟨"HotEditions$Code", "clear", "()V"⟩, prog_4_method_2_code, 1, none, 1)
def m_Cd_become : pmM := (⟨"HotEditions$Code", "become", "(LHotEditions$Code;)V"⟩, prog_4_method_3_code, 2, none, 1)
def m_Cd_add : pmM := (⟨"HotEditions$Code", "add", "(III)Z"⟩, prog_4_method_4_code, 4, some FieldType.boolean, 1)
def m_Cd_opAt : pmM := (⟨"HotEditions$Code", "opAt", "(I)I"⟩, prog_4_method_5_code, 2, some FieldType.int, 1)
def m_Cd_firstOperandAt : pmM := (⟨"HotEditions$Code", "firstOperandAt", "(I)I"⟩, prog_4_method_6_code, 2, some FieldType.int, 1)
def m_Cd_secondOperandAt : pmM := (⟨"HotEditions$Code", "secondOperandAt", "(I)I"⟩, prog_4_method_7_code, 2, some FieldType.int, 1)
def m_Cd_raiseAdditions : pmM := (⟨"HotEditions$Code", "raiseAdditions", "(I)V"⟩, prog_4_method_8_code, 3, none, 2)
def m_Df_init : pmM := (⟨"HotEditions$Definition", "<init>", "()V"⟩, prog_5_method_1_code, 2, none, 3)
def m_Df_clear : pmM := (⟨"HotEditions$Definition", "clear", "()V"⟩, prog_5_method_2_code, 1, none, 1)
def m_Df_become : pmM := (⟨"HotEditions$Definition", "become", "(LHotEditions$Definition;)V"⟩, prog_5_method_3_code, 3, none, 3)
def m_Df_addInterface : pmM := (⟨"HotEditions$Definition", "addInterface", "(I)Z"⟩, prog_5_method_4_code, 2, some FieldType.boolean, 1)
def m_Df_addField : pmM := (⟨"HotEditions$Definition", "addField", "(III)Z"⟩, prog_5_method_5_code, 4, some FieldType.boolean, 1)
def m_Df_addMethod : pmM := (⟨"HotEditions$Definition", "addMethod", "(II)Z"⟩, prog_5_method_6_code, 4, some FieldType.boolean, 2)
def m_Df_findMethod : pmM := (⟨"HotEditions$Definition", "findMethod", "(I)LHotEditions$Method;"⟩, prog_5_method_7_code, 3, some (FieldType.object "HotEditions$Method"), 1)
def m_Df_hasInterface : pmM := (⟨"HotEditions$Definition", "hasInterface", "(I)Z"⟩, prog_5_method_8_code, 3, some FieldType.boolean, 1)
def m_Df_hasEqualInterfaces : pmM := (⟨"HotEditions$Definition", "hasEqualInterfaces", "()Z"⟩, prog_5_method_9_code, 3, some FieldType.boolean, 1)
def m_Df_hasFieldsOfOneName : pmM := (⟨"HotEditions$Definition", "hasFieldsOfOneName", "()Z"⟩, prog_5_method_10_code, 3, some FieldType.boolean, 1)
def m_Df_hasMethodsOfOneName : pmM := (⟨"HotEditions$Definition", "hasMethodsOfOneName", "()Z"⟩, prog_5_method_11_code, 3, some FieldType.boolean, 1)
def m_Df_hasFieldsOf : pmM := (⟨"HotEditions$Definition", "hasFieldsOf", "(LHotEditions$Definition;)Z"⟩, prog_5_method_12_code, 3, some FieldType.boolean, 1)
def m_Df_hasInterfacesOf : pmM := (⟨"HotEditions$Definition", "hasInterfacesOf", "(LHotEditions$Definition;)Z"⟩, prog_5_method_13_code, 3, some FieldType.boolean, 2)
def m_Df_hasMethodNamesOf : pmM := (⟨"HotEditions$Definition", "hasMethodNamesOf", "(LHotEditions$Definition;)Z"⟩, prog_5_method_14_code, 3, some FieldType.boolean, 2)
def m_Df_hasMethodFlagsOf : pmM := (⟨"HotEditions$Definition", "hasMethodFlagsOf", "(LHotEditions$Definition;)Z"⟩, prog_5_method_15_code, 4, some FieldType.boolean, 2)
def m_Fr_init : pmM := (⟨"HotEditions$Frame", "<init>", "()V"⟩, prog_6_method_1_code, 1, none, 2)
def m_Fr_begin : pmM := (⟨"HotEditions$Frame", "begin", "(IILHotEditions$Code;)V"⟩, prog_6_method_2_code, 4, none, 2)
def m_Lc_init : pmM := (⟨"HotEditions$LoadedClass", "<init>", "()V"⟩, prog_7_method_1_code, 1, none, 4)
def m_Lc_addEdition : pmM := (⟨"HotEditions$LoadedClass", "addEdition", "(LHotEditions$Definition;)V"⟩, prog_7_method_2_code, 2, none, 4)
def m_Mt_init : pmM := (⟨"HotEditions$Method", "<init>", "()V"⟩, prog_8_method_1_code, 1, none, 2)
def m_Mt_become : pmM := (⟨"HotEditions$Method", "become", "(LHotEditions$Method;)V"⟩, prog_8_method_2_code, 2, none, 2)
def m_Ru_firstBroken : pmM := (⟨"HotEditions$Rules", "firstBroken", "(LHotEditions$Definition;ILHotEditions$Definition;LHotEditions$Shelf;)I"⟩, prog_9_method_2_code, 5, some FieldType.int, 5)
def m_Ru_firstBrokenAlone : pmM := (⟨"HotEditions$Rules", "firstBrokenAlone", "(LHotEditions$Definition;LHotEditions$Shelf;)I"⟩, prog_9_method_3_code, 2, some FieldType.int, 4)
def m_Ru_firstBrokenBeside : pmM := (⟨"HotEditions$Rules", "firstBrokenBeside", "(LHotEditions$Definition;ILHotEditions$Definition;)I"⟩, prog_9_method_4_code, 3, some FieldType.int, 3)
def m_Ru_hasUnknownOp : pmM := (⟨"HotEditions$Rules", "hasUnknownOp", "(LHotEditions$Definition;)Z"⟩, prog_9_method_5_code, 4, some FieldType.boolean, 2)
def m_Ru_meetsItselfAbove : pmM := (⟨"HotEditions$Rules", "meetsItselfAbove", "(LHotEditions$Definition;LHotEditions$Shelf;)Z"⟩, prog_9_method_6_code, 5, some FieldType.boolean, 2)
def m_Ru_lacksSuper : pmM := (⟨"HotEditions$Rules", "lacksSuper", "(LHotEditions$Definition;LHotEditions$Shelf;)Z"⟩, prog_9_method_7_code, 2, some FieldType.boolean, 2)
def m_Ru_lacksCalledMethod : pmM := (⟨"HotEditions$Rules", "lacksCalledMethod", "(LHotEditions$Definition;LHotEditions$Shelf;)Z"⟩, prog_9_method_8_code, 5, some FieldType.boolean, 3)
def m_Ru_isCallable : pmM := (⟨"HotEditions$Rules", "isCallable", "(LHotEditions$Definition;IILHotEditions$Shelf;)Z"⟩, prog_9_method_9_code, 5, some FieldType.boolean, 2)
def m_Sh_init : pmM := (⟨"HotEditions$Shelf", "<init>", "()V"⟩, prog_10_method_1_code, 1, none, 1)
def m_Sh_find : pmM := (⟨"HotEditions$Shelf", "find", "(I)LHotEditions$LoadedClass;"⟩, prog_10_method_2_code, 2, some (FieldType.object "HotEditions$LoadedClass"), 1)
def m_Sh_add : pmM := (⟨"HotEditions$Shelf", "add", "(ILHotEditions$Trial;)V"⟩, prog_10_method_3_code, 4, none, 5)
def m_Tf_init : pmM := (⟨"HotEditions$Transformer", "<init>", "()V"⟩, prog_11_method_1_code, 1, none, 1)
def m_Tf_isFor : pmM := (⟨"HotEditions$Transformer", "isFor", "(I)Z"⟩, prog_11_method_2_code, 2, some FieldType.boolean, 1)
def m_Tf_change : pmM := (⟨"HotEditions$Transformer", "change", "(LHotEditions$Definition;)V"⟩, prog_11_method_3_code, 3, none, 3)
def m_Tf_emptyAllCode : pmM := (⟨"HotEditions$Transformer", "emptyAllCode", "(LHotEditions$Definition;)V"⟩, prog_11_method_4_code, 2, none, 2)
def m_Tr_init : pmM := (⟨"HotEditions$Trial", "<init>", "()V"⟩, prog_12_method_1_code, 1, none, 4)
def m_Tr_take : pmM := (⟨"HotEditions$Trial", "take", "(LHotEditions$Definition;I)V"⟩, prog_12_method_2_code, 3, none, 4)
def m_Lw_law : pmM := (⟨"HotEditionsLaw", "law", "([I)Z"⟩, code, 4, some FieldType.boolean, 8)
