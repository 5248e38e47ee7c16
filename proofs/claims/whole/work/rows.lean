section
-- ===== PART A: goes FIRST, ahead of the names: the tables' words, and 'selects' of the private methods out of them =====
/-- a private method of a class that the tables say can be made, by its rows of tables_1 -/
def lw_okq (q : MethodName × Nat) : Prop := (q.1.cls ≠ "java/lang/invoke/MethodHandle" ∧ q.1.cls ≠ "java/lang/invoke/VarHandle") ∧ Cond.instantiable q.1.cls q.2 ∈ tables_1 ∧ Cond.privateMethod q.1 ∈ tables_1 ∧ Cond.instanceMethod q.1 ∈ tables_1
theorem lw_p0 : lw_okq (⟨"HotEditions", "isInBatch", "(I)Z"⟩, 8) := ⟨⟨by decide +kernel, by decide +kernel⟩, List.mem_of_getElem? (i := 16) (by decide +kernel), List.mem_of_getElem? (i := 473) (by decide +kernel), List.mem_of_getElem? (i := 474) (by decide +kernel)⟩
theorem lw_p1 : lw_okq (⟨"HotEditions", "firstBrokenOfBatch", "()I"⟩, 8) := ⟨⟨by decide +kernel, by decide +kernel⟩, List.mem_of_getElem? (i := 16) (by decide +kernel), List.mem_of_getElem? (i := 481) (by decide +kernel), List.mem_of_getElem? (i := 482) (by decide +kernel)⟩
theorem lw_p2 : lw_okq (⟨"HotEditions", "installBatch", "()V"⟩, 8) := ⟨⟨by decide +kernel, by decide +kernel⟩, List.mem_of_getElem? (i := 16) (by decide +kernel), List.mem_of_getElem? (i := 513) (by decide +kernel), List.mem_of_getElem? (i := 514) (by decide +kernel)⟩
theorem lw_p3 : lw_okq (⟨"HotEditions$Calls", "leave", "(I)V"⟩, 3) := ⟨⟨by decide +kernel, by decide +kernel⟩, List.mem_of_getElem? (i := 184) (by decide +kernel), List.mem_of_getElem? (i := 549) (by decide +kernel), List.mem_of_getElem? (i := 550) (by decide +kernel)⟩
theorem lw_p4 : lw_okq (⟨"HotEditions", "findFrame", "(II)LHotEditions$Frame;"⟩, 8) := ⟨⟨by decide +kernel, by decide +kernel⟩, List.mem_of_getElem? (i := 16) (by decide +kernel), List.mem_of_getElem? (i := 561) (by decide +kernel), List.mem_of_getElem? (i := 562) (by decide +kernel)⟩
theorem lw_p5 : lw_okq (⟨"HotEditions", "isFirstOfItsEdition", "(IILHotEditions$Frame;)Z"⟩, 8) := ⟨⟨by decide +kernel, by decide +kernel⟩, List.mem_of_getElem? (i := 16) (by decide +kernel), List.mem_of_getElem? (i := 577) (by decide +kernel), List.mem_of_getElem? (i := 578) (by decide +kernel)⟩
theorem lw_p6 : lw_okq (⟨"HotEditionsModel", "put", "(III)V"⟩, 19) := ⟨⟨by decide +kernel, by decide +kernel⟩, List.mem_of_getElem? (i := 581) (by decide +kernel), List.mem_of_getElem? (i := 591) (by decide +kernel), List.mem_of_getElem? (i := 592) (by decide +kernel)⟩
theorem lw_p7 : lw_okq (⟨"HotEditionsModel", "loaded", "(I)Z"⟩, 19) := ⟨⟨by decide +kernel, by decide +kernel⟩, List.mem_of_getElem? (i := 581) (by decide +kernel), List.mem_of_getElem? (i := 659) (by decide +kernel), List.mem_of_getElem? (i := 660) (by decide +kernel)⟩
theorem lw_p8 : lw_okq (⟨"HotEditionsModel", "transcribe", "(II)V"⟩, 19) := ⟨⟨by decide +kernel, by decide +kernel⟩, List.mem_of_getElem? (i := 581) (by decide +kernel), List.mem_of_getElem? (i := 663) (by decide +kernel), List.mem_of_getElem? (i := 664) (by decide +kernel)⟩
theorem lw_p9 : lw_okq (⟨"HotEditionsModel", "get", "(II)I"⟩, 19) := ⟨⟨by decide +kernel, by decide +kernel⟩, List.mem_of_getElem? (i := 581) (by decide +kernel), List.mem_of_getElem? (i := 667) (by decide +kernel), List.mem_of_getElem? (i := 668) (by decide +kernel)⟩
theorem lw_p10 : lw_okq (⟨"HotEditionsModel", "treat", "(III)V"⟩, 19) := ⟨⟨by decide +kernel, by decide +kernel⟩, List.mem_of_getElem? (i := 581) (by decide +kernel), List.mem_of_getElem? (i := 710) (by decide +kernel), List.mem_of_getElem? (i := 711) (by decide +kernel)⟩
theorem lw_p11 : lw_okq (⟨"HotEditionsModel", "changes", "(IIZ)V"⟩, 19) := ⟨⟨by decide +kernel, by decide +kernel⟩, List.mem_of_getElem? (i := 581) (by decide +kernel), List.mem_of_getElem? (i := 714) (by decide +kernel), List.mem_of_getElem? (i := 715) (by decide +kernel)⟩
theorem lw_p12 : lw_okq (⟨"HotEditionsModel", "change", "(II)V"⟩, 19) := ⟨⟨by decide +kernel, by decide +kernel⟩, List.mem_of_getElem? (i := 581) (by decide +kernel), List.mem_of_getElem? (i := 718) (by decide +kernel), List.mem_of_getElem? (i := 719) (by decide +kernel)⟩
theorem lw_p13 : lw_okq (⟨"HotEditionsModel", "find", "(II)I"⟩, 19) := ⟨⟨by decide +kernel, by decide +kernel⟩, List.mem_of_getElem? (i := 581) (by decide +kernel), List.mem_of_getElem? (i := 722) (by decide +kernel), List.mem_of_getElem? (i := 723) (by decide +kernel)⟩
theorem lw_p14 : lw_okq (⟨"HotEditionsModel", "plainRules", "(I)I"⟩, 19) := ⟨⟨by decide +kernel, by decide +kernel⟩, List.mem_of_getElem? (i := 581) (by decide +kernel), List.mem_of_getElem? (i := 726) (by decide +kernel), List.mem_of_getElem? (i := 727) (by decide +kernel)⟩
theorem lw_p15 : lw_okq (⟨"HotEditionsModel", "twice", "(IIII)Z"⟩, 19) := ⟨⟨by decide +kernel, by decide +kernel⟩, List.mem_of_getElem? (i := 581) (by decide +kernel), List.mem_of_getElem? (i := 730) (by decide +kernel), List.mem_of_getElem? (i := 731) (by decide +kernel)⟩
def lw_privs_1 : List (MethodName × Nat) := [(⟨"HotEditions", "isInBatch", "(I)Z"⟩, 8), (⟨"HotEditions", "firstBrokenOfBatch", "()I"⟩, 8), (⟨"HotEditions", "installBatch", "()V"⟩, 8), (⟨"HotEditions$Calls", "leave", "(I)V"⟩, 3), (⟨"HotEditions", "findFrame", "(II)LHotEditions$Frame;"⟩, 8), (⟨"HotEditions", "isFirstOfItsEdition", "(IILHotEditions$Frame;)Z"⟩, 8), (⟨"HotEditionsModel", "put", "(III)V"⟩, 19), (⟨"HotEditionsModel", "loaded", "(I)Z"⟩, 19), (⟨"HotEditionsModel", "transcribe", "(II)V"⟩, 19), (⟨"HotEditionsModel", "get", "(II)I"⟩, 19), (⟨"HotEditionsModel", "treat", "(III)V"⟩, 19), (⟨"HotEditionsModel", "changes", "(IIZ)V"⟩, 19), (⟨"HotEditionsModel", "change", "(II)V"⟩, 19), (⟨"HotEditionsModel", "find", "(II)I"⟩, 19), (⟨"HotEditionsModel", "plainRules", "(I)I"⟩, 19), (⟨"HotEditionsModel", "twice", "(IIII)Z"⟩, 19)]
theorem lw_r1 : ∀ q ∈ lw_privs_1, lw_okq q := List.forall_mem_cons.mpr ⟨lw_p0, List.forall_mem_cons.mpr ⟨lw_p1, List.forall_mem_cons.mpr ⟨lw_p2, List.forall_mem_cons.mpr ⟨lw_p3, List.forall_mem_cons.mpr ⟨lw_p4, List.forall_mem_cons.mpr ⟨lw_p5, List.forall_mem_cons.mpr ⟨lw_p6, List.forall_mem_cons.mpr ⟨lw_p7, List.forall_mem_cons.mpr ⟨lw_p8, List.forall_mem_cons.mpr ⟨lw_p9, List.forall_mem_cons.mpr ⟨lw_p10, List.forall_mem_cons.mpr ⟨lw_p11, List.forall_mem_cons.mpr ⟨lw_p12, List.forall_mem_cons.mpr ⟨lw_p13, List.forall_mem_cons.mpr ⟨lw_p14, List.forall_mem_cons.mpr ⟨lw_p15, fun _ h => absurd h List.not_mem_nil⟩⟩⟩⟩⟩⟩⟩⟩⟩⟩⟩⟩⟩⟩⟩⟩
theorem lw_p16 : lw_okq (⟨"HotEditionsModel", "strangeOp", "(I)Z"⟩, 19) := ⟨⟨by decide +kernel, by decide +kernel⟩, List.mem_of_getElem? (i := 581) (by decide +kernel), List.mem_of_getElem? (i := 734) (by decide +kernel), List.mem_of_getElem? (i := 735) (by decide +kernel)⟩
theorem lw_p17 : lw_okq (⟨"HotEditionsModel", "circle", "(I)Z"⟩, 19) := ⟨⟨by decide +kernel, by decide +kernel⟩, List.mem_of_getElem? (i := 581) (by decide +kernel), List.mem_of_getElem? (i := 738) (by decide +kernel), List.mem_of_getElem? (i := 739) (by decide +kernel)⟩
theorem lw_p18 : lw_okq (⟨"HotEditionsModel", "callsNothing", "(I)Z"⟩, 19) := ⟨⟨by decide +kernel, by decide +kernel⟩, List.mem_of_getElem? (i := 581) (by decide +kernel), List.mem_of_getElem? (i := 742) (by decide +kernel), List.mem_of_getElem? (i := 743) (by decide +kernel)⟩
theorem lw_p19 : lw_okq (⟨"HotEditionsModel", "renew", "(II)V"⟩, 19) := ⟨⟨by decide +kernel, by decide +kernel⟩, List.mem_of_getElem? (i := 581) (by decide +kernel), List.mem_of_getElem? (i := 746) (by decide +kernel), List.mem_of_getElem? (i := 747) (by decide +kernel)⟩
theorem lw_p20 : lw_okq (⟨"HotEditionsModel", "inUse", "(I)Z"⟩, 19) := ⟨⟨by decide +kernel, by decide +kernel⟩, List.mem_of_getElem? (i := 581) (by decide +kernel), List.mem_of_getElem? (i := 750) (by decide +kernel), List.mem_of_getElem? (i := 751) (by decide +kernel)⟩
theorem lw_p21 : lw_okq (⟨"HotEditionsModel", "inFrames", "(I)Z"⟩, 19) := ⟨⟨by decide +kernel, by decide +kernel⟩, List.mem_of_getElem? (i := 581) (by decide +kernel), List.mem_of_getElem? (i := 754) (by decide +kernel), List.mem_of_getElem? (i := 755) (by decide +kernel)⟩
theorem lw_p22 : lw_okq (⟨"HotEditionsModel", "rules", "(II)I"⟩, 19) := ⟨⟨by decide +kernel, by decide +kernel⟩, List.mem_of_getElem? (i := 581) (by decide +kernel), List.mem_of_getElem? (i := 766) (by decide +kernel), List.mem_of_getElem? (i := 767) (by decide +kernel)⟩
theorem lw_p23 : lw_okq (⟨"HotEditionsModel", "otherInterfaces", "(II)Z"⟩, 19) := ⟨⟨by decide +kernel, by decide +kernel⟩, List.mem_of_getElem? (i := 581) (by decide +kernel), List.mem_of_getElem? (i := 770) (by decide +kernel), List.mem_of_getElem? (i := 771) (by decide +kernel)⟩
theorem lw_p24 : lw_okq (⟨"HotEditionsModel", "otherFields", "(II)Z"⟩, 19) := ⟨⟨by decide +kernel, by decide +kernel⟩, List.mem_of_getElem? (i := 581) (by decide +kernel), List.mem_of_getElem? (i := 774) (by decide +kernel), List.mem_of_getElem? (i := 775) (by decide +kernel)⟩
theorem lw_p25 : lw_okq (⟨"HotEditionsModel", "moreMethods", "(II)Z"⟩, 19) := ⟨⟨by decide +kernel, by decide +kernel⟩, List.mem_of_getElem? (i := 581) (by decide +kernel), List.mem_of_getElem? (i := 778) (by decide +kernel), List.mem_of_getElem? (i := 779) (by decide +kernel)⟩
theorem lw_p26 : lw_okq (⟨"HotEditionsModel", "otherMethodFlags", "(II)Z"⟩, 19) := ⟨⟨by decide +kernel, by decide +kernel⟩, List.mem_of_getElem? (i := 581) (by decide +kernel), List.mem_of_getElem? (i := 782) (by decide +kernel), List.mem_of_getElem? (i := 783) (by decide +kernel)⟩
theorem lw_p27 : lw_okq (⟨"HotEditionsModel", "push", "(III)V"⟩, 19) := ⟨⟨by decide +kernel, by decide +kernel⟩, List.mem_of_getElem? (i := 581) (by decide +kernel), List.mem_of_getElem? (i := 797) (by decide +kernel), List.mem_of_getElem? (i := 798) (by decide +kernel)⟩
theorem lw_p28 : lw_okq (⟨"HotEditionsModel", "once", "(I)V"⟩, 19) := ⟨⟨by decide +kernel, by decide +kernel⟩, List.mem_of_getElem? (i := 581) (by decide +kernel), List.mem_of_getElem? (i := 805) (by decide +kernel), List.mem_of_getElem? (i := 806) (by decide +kernel)⟩
def lw_privs_2 : List (MethodName × Nat) := [(⟨"HotEditionsModel", "strangeOp", "(I)Z"⟩, 19), (⟨"HotEditionsModel", "circle", "(I)Z"⟩, 19), (⟨"HotEditionsModel", "callsNothing", "(I)Z"⟩, 19), (⟨"HotEditionsModel", "renew", "(II)V"⟩, 19), (⟨"HotEditionsModel", "inUse", "(I)Z"⟩, 19), (⟨"HotEditionsModel", "inFrames", "(I)Z"⟩, 19), (⟨"HotEditionsModel", "rules", "(II)I"⟩, 19), (⟨"HotEditionsModel", "otherInterfaces", "(II)Z"⟩, 19), (⟨"HotEditionsModel", "otherFields", "(II)Z"⟩, 19), (⟨"HotEditionsModel", "moreMethods", "(II)Z"⟩, 19), (⟨"HotEditionsModel", "otherMethodFlags", "(II)Z"⟩, 19), (⟨"HotEditionsModel", "push", "(III)V"⟩, 19), (⟨"HotEditionsModel", "once", "(I)V"⟩, 19)]
theorem lw_r2 : ∀ q ∈ lw_privs_2, lw_okq q := List.forall_mem_cons.mpr ⟨lw_p16, List.forall_mem_cons.mpr ⟨lw_p17, List.forall_mem_cons.mpr ⟨lw_p18, List.forall_mem_cons.mpr ⟨lw_p19, List.forall_mem_cons.mpr ⟨lw_p20, List.forall_mem_cons.mpr ⟨lw_p21, List.forall_mem_cons.mpr ⟨lw_p22, List.forall_mem_cons.mpr ⟨lw_p23, List.forall_mem_cons.mpr ⟨lw_p24, List.forall_mem_cons.mpr ⟨lw_p25, List.forall_mem_cons.mpr ⟨lw_p26, List.forall_mem_cons.mpr ⟨lw_p27, List.forall_mem_cons.mpr ⟨lw_p28, fun _ h => absurd h List.not_mem_nil⟩⟩⟩⟩⟩⟩⟩⟩⟩⟩⟩⟩⟩
def lw_privs : List (MethodName × Nat) := lw_privs_1 ++ (lw_privs_2)
def lw_tbl : List Cond := k2_sels lw_privs ++ tables_1
theorem lw_privs_ok : ∀ q ∈ lw_privs, lw_okq q := by
  show ∀ q ∈ lw_privs_1 ++ (lw_privs_2), lw_okq q
  exact List.forall_mem_append.mpr ⟨lw_r1, lw_r2⟩
end
section
/-! Names, printed by a program of mine out of the tables' words and javap's listing: classes, methods, words. -/
abbrev pmM : Type := MethodName × ByteArray × Nat × Option FieldType × Nat
def pmMv (w : Jvm.Cond) : Bool := match w with
  | .fieldLinkNest .. => true
  | .methodLinkNest .. => true
  | .arrayOver (.object _) => true
  | w => goodWord w
def pmWs : List Jvm.Cond := lw_tbl.filter pmMv
theorem pmWs_ok : ∀ w ∈ pmWs, pmMv w = true := fun w h => (List.mem_filter.mp h).2
theorem pmWs_in {w : Jvm.Cond} (h : w ∈ tables_1) (hm : pmMv w = true) : w ∈ pmWs := List.mem_filter.mpr ⟨List.mem_append_right _ h, hm⟩
theorem pmWs_1 {w : Jvm.Cond} (h : w ∈ tables_1_1) (hm : pmMv w = true) : w ∈ pmWs := pmWs_in (List.mem_append_left _ h) hm
theorem pmWs_2 {w : Jvm.Cond} (h : w ∈ tables_1_2) (hm : pmMv w = true) : w ∈ pmWs := pmWs_in (List.mem_append_right _ (List.mem_append_left _ h)) hm
theorem pmWs_3 {w : Jvm.Cond} (h : w ∈ tables_1_3) (hm : pmMv w = true) : w ∈ pmWs := pmWs_in (List.mem_append_right _ (List.mem_append_right _ (List.mem_append_left _ h))) hm
theorem pmWs_4 {w : Jvm.Cond} (h : w ∈ tables_1_4) (hm : pmMv w = true) : w ∈ pmWs := pmWs_in (List.mem_append_right _ (List.mem_append_right _ (List.mem_append_right _ h))) hm
theorem pmWs_s {q : MethodName × Nat} (h : q ∈ lw_privs) : Jvm.Cond.selects q.1.cls q.1 q.1 ∈ pmWs := List.mem_filter.mpr ⟨List.mem_append_left _ (List.mem_map.mpr ⟨q, h, rfl⟩), rfl⟩
def T_HE : u_T := fun k => match k with
  | 0 => ("HotEditions", "draft", "LHotEditions$Definition;", true)
  | 1 => ("HotEditions", "chosen", "I", false)
  | 2 => ("HotEditions", "shelf", "LHotEditions$Shelf;", true)
  | 3 => ("HotEditions", "chain", "LHotEditions$Chain;", true)
  | 4 => ("HotEditions", "batch", "[LHotEditions$Trial;", true)
  | 5 => ("HotEditions", "batchSize", "I", false)
  | 6 => ("HotEditions", "single", "LHotEditions$Trial;", true)
  | _ => ("HotEditions", "threads", "[LHotEditions$Calls;", true)
def t_HE : Nat → FieldType := fun k => match k with
  | 0 => (.object "HotEditions$Definition")
  | 1 => .int
  | 2 => (.object "HotEditions$Shelf")
  | 3 => (.object "HotEditions$Chain")
  | 4 => (.array (.object "HotEditions$Trial"))
  | 5 => .int
  | 6 => (.object "HotEditions$Trial")
  | _ => (.array (.object "HotEditions$Calls"))
theorem nm_HE : ∀ a, a < 8 → ∀ b, b < 8 → a ≠ b → (T_HE a).2.1 ≠ (T_HE b).2.1 := by decide +kernel
theorem ty_HE : ∀ k, k < 8 → parseFieldDescriptor (T_HE k).2.2.1 = some (t_HE k) := by decide +kernel
def T_Mo : u_T := fun k => match k with
  | 0 => ("HotEditionsModel", "cell", "[I", true)
  | 1 => ("HotEditionsModel", "chosen", "I", false)
  | 2 => ("HotEditionsModel", "current", "[I", true)
  | 3 => ("HotEditionsModel", "numbers", "[I", true)
  | 4 => ("HotEditionsModel", "numberOf", "[I", true)
  | 5 => ("HotEditionsModel", "classOf", "[I", true)
  | 6 => ("HotEditionsModel", "taken", "[Z", true)
  | 7 => ("HotEditionsModel", "kind", "[I", true)
  | 8 => ("HotEditionsModel", "value", "[I", true)
  | 9 => ("HotEditionsModel", "only", "[I", true)
  | 10 => ("HotEditionsModel", "repeats", "[Z", true)
  | 11 => ("HotEditionsModel", "batch", "I", false)
  | 12 => ("HotEditionsModel", "meant", "[I", true)
  | 13 => ("HotEditionsModel", "depth", "[I", true)
  | 14 => ("HotEditionsModel", "frameRow", "[I", true)
  | 15 => ("HotEditionsModel", "frameMethod", "[I", true)
  | 16 => ("HotEditionsModel", "place", "[I", true)
  | 17 => ("HotEditionsModel", "sum", "[I", true)
  | _ => ("HotEditionsModel", "results", "[I", true)
def t_Mo : Nat → FieldType := fun k => match k with
  | 0 => (.array .int)
  | 1 => .int
  | 2 => (.array .int)
  | 3 => (.array .int)
  | 4 => (.array .int)
  | 5 => (.array .int)
  | 6 => (.array .boolean)
  | 7 => (.array .int)
  | 8 => (.array .int)
  | 9 => (.array .int)
  | 10 => (.array .boolean)
  | 11 => .int
  | 12 => (.array .int)
  | 13 => (.array .int)
  | 14 => (.array .int)
  | 15 => (.array .int)
  | 16 => (.array .int)
  | 17 => (.array .int)
  | _ => (.array .int)
theorem nm_Mo : ∀ a, a < 19 → ∀ b, b < 19 → a ≠ b → (T_Mo a).2.1 ≠ (T_Mo b).2.1 := by decide +kernel
theorem ty_Mo : ∀ k, k < 19 → parseFieldDescriptor (T_Mo k).2.2.1 = some (t_Mo k) := by decide +kernel
def T_Cl : u_T := fun k => match k with
  | 0 => ("HotEditions$Calls", "frames", "[LHotEditions$Frame;", true)
  | 1 => ("HotEditions$Calls", "depth", "I", false)
  | _ => ("HotEditions$Calls", "result", "I", false)
def t_Cl : Nat → FieldType := fun k => match k with
  | 0 => (.array (.object "HotEditions$Frame"))
  | 1 => .int
  | _ => .int
theorem nm_Cl : ∀ a, a < 3 → ∀ b, b < 3 → a ≠ b → (T_Cl a).2.1 ≠ (T_Cl b).2.1 := by decide +kernel
theorem ty_Cl : ∀ k, k < 3 → parseFieldDescriptor (T_Cl k).2.2.1 = some (t_Cl k) := by decide +kernel
def T_Ch : u_T := fun k => match k with
  | _ => ("HotEditions$Chain", "links", "[LHotEditions$Transformer;", true)
def t_Ch : Nat → FieldType := fun k => match k with
  | _ => (.array (.object "HotEditions$Transformer"))
theorem nm_Ch : ∀ a, a < 1 → ∀ b, b < 1 → a ≠ b → (T_Ch a).2.1 ≠ (T_Ch b).2.1 := by decide +kernel
theorem ty_Ch : ∀ k, k < 1 → parseFieldDescriptor (T_Ch k).2.2.1 = some (t_Ch k) := by decide +kernel
def T_Cd : u_T := fun k => match k with
  | 0 => ("HotEditions$Code", "cells", "[I", true)
  | _ => ("HotEditions$Code", "length", "I", false)
def t_Cd : Nat → FieldType := fun k => match k with
  | 0 => (.array .int)
  | _ => .int
theorem nm_Cd : ∀ a, a < 2 → ∀ b, b < 2 → a ≠ b → (T_Cd a).2.1 ≠ (T_Cd b).2.1 := by decide +kernel
theorem ty_Cd : ∀ k, k < 2 → parseFieldDescriptor (T_Cd k).2.2.1 = some (t_Cd k) := by decide +kernel
def T_Df : u_T := fun k => match k with
  | 0 => ("HotEditions$Definition", "parts", "[I", true)
  | 1 => ("HotEditions$Definition", "interfaces", "[I", true)
  | 2 => ("HotEditions$Definition", "interfaceCount", "I", false)
  | 3 => ("HotEditions$Definition", "fieldCells", "[I", true)
  | 4 => ("HotEditions$Definition", "fieldCount", "I", false)
  | 5 => ("HotEditions$Definition", "methods", "[LHotEditions$Method;", true)
  | _ => ("HotEditions$Definition", "methodCount", "I", false)
def t_Df : Nat → FieldType := fun k => match k with
  | 0 => (.array .int)
  | 1 => (.array .int)
  | 2 => .int
  | 3 => (.array .int)
  | 4 => .int
  | 5 => (.array (.object "HotEditions$Method"))
  | _ => .int
theorem nm_Df : ∀ a, a < 7 → ∀ b, b < 7 → a ≠ b → (T_Df a).2.1 ≠ (T_Df b).2.1 := by decide +kernel
theorem ty_Df : ∀ k, k < 7 → parseFieldDescriptor (T_Df k).2.2.1 = some (t_Df k) := by decide +kernel
def T_Fr : u_T := fun k => match k with
  | 0 => ("HotEditions$Frame", "ofClass", "I", false)
  | 1 => ("HotEditions$Frame", "edition", "I", false)
  | 2 => ("HotEditions$Frame", "body", "LHotEditions$Code;", true)
  | 3 => ("HotEditions$Frame", "place", "I", false)
  | _ => ("HotEditions$Frame", "sum", "I", false)
def t_Fr : Nat → FieldType := fun k => match k with
  | 0 => .int
  | 1 => .int
  | 2 => (.object "HotEditions$Code")
  | 3 => .int
  | _ => .int
theorem nm_Fr : ∀ a, a < 5 → ∀ b, b < 5 → a ≠ b → (T_Fr a).2.1 ≠ (T_Fr b).2.1 := by decide +kernel
theorem ty_Fr : ∀ k, k < 5 → parseFieldDescriptor (T_Fr k).2.2.1 = some (t_Fr k) := by decide +kernel
def T_Lc : u_T := fun k => match k with
  | 0 => ("HotEditions$LoadedClass", "edition", "I", false)
  | 1 => ("HotEditions$LoadedClass", "current", "LHotEditions$Definition;", true)
  | _ => ("HotEditions$LoadedClass", "original", "LHotEditions$Definition;", true)
def t_Lc : Nat → FieldType := fun k => match k with
  | 0 => .int
  | 1 => (.object "HotEditions$Definition")
  | _ => (.object "HotEditions$Definition")
theorem nm_Lc : ∀ a, a < 3 → ∀ b, b < 3 → a ≠ b → (T_Lc a).2.1 ≠ (T_Lc b).2.1 := by decide +kernel
theorem ty_Lc : ∀ k, k < 3 → parseFieldDescriptor (T_Lc k).2.2.1 = some (t_Lc k) := by decide +kernel
def T_Mt : u_T := fun k => match k with
  | 0 => ("HotEditions$Method", "name", "I", false)
  | 1 => ("HotEditions$Method", "flags", "I", false)
  | _ => ("HotEditions$Method", "body", "LHotEditions$Code;", true)
def t_Mt : Nat → FieldType := fun k => match k with
  | 0 => .int
  | 1 => .int
  | _ => (.object "HotEditions$Code")
theorem nm_Mt : ∀ a, a < 3 → ∀ b, b < 3 → a ≠ b → (T_Mt a).2.1 ≠ (T_Mt b).2.1 := by decide +kernel
theorem ty_Mt : ∀ k, k < 3 → parseFieldDescriptor (T_Mt k).2.2.1 = some (t_Mt k) := by decide +kernel
def T_Sh : u_T := fun k => match k with
  | _ => ("HotEditions$Shelf", "places", "[LHotEditions$LoadedClass;", true)
def t_Sh : Nat → FieldType := fun k => match k with
  | _ => (.array (.object "HotEditions$LoadedClass"))
theorem nm_Sh : ∀ a, a < 1 → ∀ b, b < 1 → a ≠ b → (T_Sh a).2.1 ≠ (T_Sh b).2.1 := by decide +kernel
theorem ty_Sh : ∀ k, k < 1 → parseFieldDescriptor (T_Sh k).2.2.1 = some (t_Sh k) := by decide +kernel
def T_Tf : u_T := fun k => match k with
  | 0 => ("HotEditions$Transformer", "present", "Z", false)
  | 1 => ("HotEditions$Transformer", "kind", "I", false)
  | 2 => ("HotEditions$Transformer", "value", "I", false)
  | 3 => ("HotEditions$Transformer", "only", "I", false)
  | _ => ("HotEditions$Transformer", "repeats", "Z", false)
def t_Tf : Nat → FieldType := fun k => match k with
  | 0 => .boolean
  | 1 => .int
  | 2 => .int
  | 3 => .int
  | _ => .boolean
theorem nm_Tf : ∀ a, a < 5 → ∀ b, b < 5 → a ≠ b → (T_Tf a).2.1 ≠ (T_Tf b).2.1 := by decide +kernel
theorem ty_Tf : ∀ k, k < 5 → parseFieldDescriptor (T_Tf k).2.2.1 = some (t_Tf k) := by decide +kernel
def T_Tr : u_T := fun k => match k with
  | 0 => ("HotEditions$Trial", "target", "I", false)
  | 1 => ("HotEditions$Trial", "form", "LHotEditions$Definition;", true)
  | _ => ("HotEditions$Trial", "original", "LHotEditions$Definition;", true)
def t_Tr : Nat → FieldType := fun k => match k with
  | 0 => .int
  | 1 => (.object "HotEditions$Definition")
  | _ => (.object "HotEditions$Definition")
theorem nm_Tr : ∀ a, a < 3 → ∀ b, b < 3 → a ≠ b → (T_Tr a).2.1 ≠ (T_Tr b).2.1 := by decide +kernel
theorem ty_Tr : ∀ k, k < 3 → parseFieldDescriptor (T_Tr k).2.2.1 = some (t_Tr k) := by decide +kernel
abbrev pmCl : List vw_C := [("HotEditions", T_HE, 8), ("HotEditionsModel", T_Mo, 19), ("HotEditions$Calls", T_Cl, 3), ("HotEditions$Chain", T_Ch, 1), ("HotEditions$Code", T_Cd, 2), ("HotEditions$Definition", T_Df, 7), ("HotEditions$Frame", T_Fr, 5), ("HotEditions$LoadedClass", T_Lc, 3), ("HotEditions$Method", T_Mt, 3), ("HotEditions$Shelf", T_Sh, 1), ("HotEditions$Transformer", T_Tf, 5), ("HotEditions$Trial", T_Tr, 3)]
abbrev kHE : Nat := 0
abbrev kMo : Nat := 1
abbrev kCl : Nat := 2
abbrev kCh : Nat := 3
abbrev kCd : Nat := 4
abbrev kDf : Nat := 5
abbrev kFr : Nat := 6
abbrev kLc : Nat := 7
abbrev kMt : Nat := 8
abbrev kSh : Nat := 9
abbrev kTf : Nat := 10
abbrev kTr : Nat := 11
def pmTy : Nat → Option FieldType := fun k => match k with
  | 0 => some .int
  | 1 => some .boolean
  | 10 => some (.object "HotEditions$Method")
  | 9 => some (.object "HotEditions$LoadedClass")
  | 12 => some (.object "HotEditions$Transformer")
  | 13 => some (.object "HotEditions$Trial")
  | 4 => some (.object "HotEditions$Calls")
  | 8 => some (.object "HotEditions$Frame")
  | _ => none
def m_HE_init : pmM := (⟨"HotEditions", "<init>", "()V"⟩, prog_1_method_1_code, 2, none, 5)
def m_HE_blank : pmM := (⟨"HotEditions", "blank", "()V"⟩, prog_1_method_2_code, 1, none, 2)
def m_HE_copy : pmM := (⟨"HotEditions", "copy", "(I)Z"⟩, prog_1_method_3_code, 3, some FieldType.boolean, 4)
def m_HE_set : pmM := (⟨"HotEditions", "set", "(II)Z"⟩, prog_1_method_4_code, 3, some FieldType.boolean, 1)
def m_HE_implement : pmM := (⟨"HotEditions", "implement", "(I)Z"⟩, prog_1_method_5_code, 2, some FieldType.boolean, 2)
def m_HE_field : pmM := (⟨"HotEditions", "field", "(III)Z"⟩, prog_1_method_6_code, 4, some FieldType.boolean, 2)
def m_HE_method : pmM := (⟨"HotEditions", "method", "(II)Z"⟩, prog_1_method_7_code, 3, some FieldType.boolean, 3)
def m_HE_choose : pmM := (⟨"HotEditions", "choose", "(I)Z"⟩, prog_1_method_8_code, 2, some FieldType.boolean, 2)
def m_HE_code : pmM := (⟨"HotEditions", "code", "(III)Z"⟩, prog_1_method_9_code, 4, some FieldType.boolean, 2)
def m_HE_load : pmM := (⟨"HotEditions", "load", "()I"⟩, prog_1_method_10_code, 3, some FieldType.int, 6)
def m_HE_transformer : pmM := (⟨"HotEditions", "transformer", "(IIIZ)I"⟩, prog_1_method_11_code, 5, some FieldType.int, 2)
def m_HE_remove : pmM := (⟨"HotEditions", "remove", "(I)Z"⟩, prog_1_method_12_code, 2, some FieldType.boolean, 2)
def m_HE_queue : pmM := (⟨"HotEditions", "queue", "(I)Z"⟩, prog_1_method_13_code, 2, some FieldType.boolean, 5)
def m_HE_swap : pmM := (⟨"HotEditions", "swap", "()I"⟩, prog_1_method_14_code, 2, some FieldType.int, 7)
def m_HE_repeat : pmM := (⟨"HotEditions", "repeat", "(I)I"⟩, prog_1_method_15_code, 4, some FieldType.int, 6)
def m_HE_start : pmM := (⟨"HotEditions", "start", "(III)Z"⟩, prog_1_method_16_code, 4, some FieldType.boolean, 4)
def m_HE_step : pmM := (⟨"HotEditions", "step", "(II)I"⟩, prog_1_method_17_code, 4, some FieldType.int, 5)
def m_HE_frame : pmM := (⟨"HotEditions", "frame", "(II)I"⟩, prog_1_method_18_code, 4, some FieldType.int, 3)
def m_HE_result : pmM := (⟨"HotEditions", "result", "(I)I"⟩, prog_1_method_19_code, 2, some FieldType.int, 2)
def m_HE_edition : pmM := (⟨"HotEditions", "edition", "(I)I"⟩, prog_1_method_20_code, 3, some FieldType.int, 2)
def m_HE_kept : pmM := (⟨"HotEditions", "kept", "(I)I"⟩, prog_1_method_21_code, 7, some FieldType.int, 4)
def m_HE_isClass : pmM := (⟨"HotEditions", "isClass", "(I)Z"⟩, prog_1_method_22_code, 1, some FieldType.boolean, 1)
def m_HE_isThread : pmM := (⟨"HotEditions", "isThread", "(I)Z"⟩, prog_1_method_23_code, 1, some FieldType.boolean, 1)
def m_HE_isInBatch : pmM := (⟨"HotEditions", "isInBatch", "(I)Z"⟩, prog_1_method_24_code, 3, some FieldType.boolean, 1)
def m_HE_firstBrokenOfBatch : pmM := (⟨"HotEditions", "firstBrokenOfBatch", "()I"⟩, prog_1_method_25_code, 5, some FieldType.int, 6)
def m_HE_installBatch : pmM := (⟨"HotEditions", "installBatch", "()V"⟩, prog_1_method_26_code, 3, none, 5)
def m_HE_findFrame : pmM := (⟨"HotEditions", "findFrame", "(II)LHotEditions$Frame;"⟩, prog_1_method_27_code, 3, some (FieldType.object "HotEditions$Frame"), 2)
def m_HE_isFirstOfItsEdition : pmM := (⟨"HotEditions", "isFirstOfItsEdition", "(IILHotEditions$Frame;)Z"⟩, prog_1_method_28_code, 6, some FieldType.boolean, 3)
def m_Mo_init : pmM := (⟨"HotEditionsModel", "<init>", "()V"⟩, prog_14_method_1_code, 1, none, 3)
def m_Mo_get : pmM := (⟨"HotEditionsModel", "get", "(II)I"⟩, prog_14_method_2_code, 3, some FieldType.int, 1)
def m_Mo_put : pmM := (⟨"HotEditionsModel", "put", "(III)V"⟩, prog_14_method_3_code, 4, none, 1)
def m_Mo_transcribe : pmM := (⟨"HotEditionsModel", "transcribe", "(II)V"⟩, prog_14_method_4_code, 4, none, 2)
def m_Mo_loaded : pmM := (⟨"HotEditionsModel", "loaded", "(I)Z"⟩, prog_14_method_5_code, 2, some FieldType.boolean, 1)
def m_Mo_blank : pmM := (⟨"HotEditionsModel", "blank", "()V"⟩, prog_14_method_6_code, 2, none, 2)
def m_Mo_copy : pmM := (⟨"HotEditionsModel", "copy", "(I)Z"⟩, prog_14_method_7_code, 2, some FieldType.boolean, 3)
def m_Mo_set : pmM := (⟨"HotEditionsModel", "set", "(II)Z"⟩, prog_14_method_8_code, 3, some FieldType.boolean, 2)
def m_Mo_implement : pmM := (⟨"HotEditionsModel", "implement", "(I)Z"⟩, prog_14_method_9_code, 3, some FieldType.boolean, 2)
def m_Mo_field : pmM := (⟨"HotEditionsModel", "field", "(III)Z"⟩, prog_14_method_10_code, 5, some FieldType.boolean, 2)
def m_Mo_methodAt : pmM := (⟨"HotEditionsModel", "methodAt", "(I)I"⟩, prog_14_method_11_code, 1, some FieldType.int, 1)
def m_Mo_method : pmM := (⟨"HotEditionsModel", "method", "(II)Z"⟩, prog_14_method_12_code, 4, some FieldType.boolean, 2)
def m_Mo_choose : pmM := (⟨"HotEditionsModel", "choose", "(I)Z"⟩, prog_14_method_13_code, 2, some FieldType.boolean, 2)
def m_Mo_code : pmM := (⟨"HotEditionsModel", "code", "(III)Z"⟩, prog_14_method_14_code, 6, some FieldType.boolean, 2)
def m_Mo_transformer : pmM := (⟨"HotEditionsModel", "transformer", "(IIIZ)I"⟩, prog_14_method_15_code, 6, some FieldType.int, 1)
def m_Mo_remove : pmM := (⟨"HotEditionsModel", "remove", "(I)Z"⟩, prog_14_method_16_code, 2, some FieldType.boolean, 1)
def m_Mo_find : pmM := (⟨"HotEditionsModel", "find", "(II)I"⟩, prog_14_method_17_code, 4, some FieldType.int, 2)
def m_Mo_change : pmM := (⟨"HotEditionsModel", "change", "(II)V"⟩, prog_14_method_18_code, 8, none, 3)
def m_Mo_changes : pmM := (⟨"HotEditionsModel", "changes", "(IIZ)V"⟩, prog_14_method_19_code, 5, none, 4)
def m_Mo_treat : pmM := (⟨"HotEditionsModel", "treat", "(III)V"⟩, prog_14_method_20_code, 4, none, 5)
def m_Mo_twice : pmM := (⟨"HotEditionsModel", "twice", "(IIII)Z"⟩, prog_14_method_21_code, 8, some FieldType.boolean, 2)
def m_Mo_strangeOp : pmM := (⟨"HotEditionsModel", "strangeOp", "(I)Z"⟩, prog_14_method_22_code, 7, some FieldType.boolean, 2)
def m_Mo_circle : pmM := (⟨"HotEditionsModel", "circle", "(I)Z"⟩, prog_14_method_23_code, 6, some FieldType.boolean, 2)
def m_Mo_callsNothing : pmM := (⟨"HotEditionsModel", "callsNothing", "(I)Z"⟩, prog_14_method_24_code, 9, some FieldType.boolean, 3)
def m_Mo_plainRules : pmM := (⟨"HotEditionsModel", "plainRules", "(I)I"⟩, prog_14_method_25_code, 4, some FieldType.int, 4)
def m_Mo_otherInterfaces : pmM := (⟨"HotEditionsModel", "otherInterfaces", "(II)Z"⟩, prog_14_method_26_code, 7, some FieldType.boolean, 2)
def m_Mo_otherFields : pmM := (⟨"HotEditionsModel", "otherFields", "(II)Z"⟩, prog_14_method_27_code, 5, some FieldType.boolean, 2)
def m_Mo_moreMethods : pmM := (⟨"HotEditionsModel", "moreMethods", "(II)Z"⟩, prog_14_method_28_code, 5, some FieldType.boolean, 3)
def m_Mo_otherMethodFlags : pmM := (⟨"HotEditionsModel", "otherMethodFlags", "(II)Z"⟩, prog_14_method_29_code, 7, some FieldType.boolean, 3)
def m_Mo_rules : pmM := (⟨"HotEditionsModel", "rules", "(II)I"⟩, prog_14_method_30_code, 5, some FieldType.int, 5)
def m_Mo_inFrames : pmM := (⟨"HotEditionsModel", "inFrames", "(I)Z"⟩, prog_14_method_31_code, 5, some FieldType.boolean, 1)
def m_Mo_inUse : pmM := (⟨"HotEditionsModel", "inUse", "(I)Z"⟩, prog_14_method_32_code, 4, some FieldType.boolean, 2)
def m_Mo_renew : pmM := (⟨"HotEditionsModel", "renew", "(II)V"⟩, prog_14_method_33_code, 4, none, 3)
def m_Mo_load : pmM := (⟨"HotEditionsModel", "load", "()I"⟩, prog_14_method_34_code, 3, some FieldType.int, 6)
def m_Mo_queue : pmM := (⟨"HotEditionsModel", "queue", "(I)Z"⟩, prog_14_method_35_code, 3, some FieldType.boolean, 3)
def m_Mo_swap : pmM := (⟨"HotEditionsModel", "swap", "()I"⟩, prog_14_method_36_code, 4, some FieldType.int, 6)
def m_Mo_repeat : pmM := (⟨"HotEditionsModel", "repeat", "(I)I"⟩, prog_14_method_37_code, 3, some FieldType.int, 6)
def m_Mo_push : pmM := (⟨"HotEditionsModel", "push", "(III)V"⟩, prog_14_method_38_code, 5, none, 3)
def m_Mo_isThread : pmM := (⟨"HotEditionsModel", "isThread", "(I)Z"⟩, prog_14_method_39_code, 1, some FieldType.boolean, 1)
def m_Mo_start : pmM := (⟨"HotEditionsModel", "start", "(III)Z"⟩, prog_14_method_40_code, 4, some FieldType.boolean, 4)
def m_Mo_once : pmM := (⟨"HotEditionsModel", "once", "(I)V"⟩, prog_14_method_41_code, 8, none, 4)
def m_Mo_step : pmM := (⟨"HotEditionsModel", "step", "(II)I"⟩, prog_14_method_42_code, 4, some FieldType.int, 5)
def m_Mo_frame : pmM := (⟨"HotEditionsModel", "frame", "(II)I"⟩, prog_14_method_43_code, 4, some FieldType.int, 2)
def m_Mo_result : pmM := (⟨"HotEditionsModel", "result", "(I)I"⟩, prog_14_method_44_code, 2, some FieldType.int, 2)
def m_Mo_edition : pmM := (⟨"HotEditionsModel", "edition", "(I)I"⟩, prog_14_method_45_code, 2, some FieldType.int, 2)
def m_Mo_kept : pmM := (⟨"HotEditionsModel", "kept", "(I)I"⟩, prog_14_method_46_code, 4, some FieldType.int, 3)
def m_Cl_init : pmM := (⟨"HotEditions$Calls", "<init>", "()V"⟩, prog_2_method_1_code, 2, none, 3)
def m_Cl_enter : pmM := (⟨"HotEditions$Calls", "enter", "(IILHotEditions$Shelf;)Z"⟩, prog_2_method_2_code, 6, some FieldType.boolean, 3)
def m_Cl_advance : pmM := (⟨"HotEditions$Calls", "advance", "(LHotEditions$Shelf;)V"⟩, prog_2_method_3_code, 4, none, 4)
def m_Cl_leave : pmM := (⟨"HotEditions$Calls", "leave", "(I)V"⟩, prog_2_method_4_code, 2, none, 1)
def m_Ch_init : pmM := (⟨"HotEditions$Chain", "<init>", "()V"⟩, prog_3_method_1_code, 2, none, 2)
def m_Ch_put : pmM := (⟨"HotEditions$Chain", "put", "(IIIZ)I"⟩, prog_3_method_2_code, 7, some FieldType.int, 1)
def m_Ch_free : pmM := (⟨"HotEditions$Chain", "free", "(I)Z"⟩, prog_3_method_3_code, 2, some FieldType.boolean, 1)
def m_Ch_treat : pmM := (⟨"HotEditions$Chain", "treat", "(LHotEditions$Trial;)V"⟩, prog_3_method_4_code, 2, none, 5)
def m_Ch_change : pmM := (⟨"HotEditions$Chain", "change", "(LHotEditions$Definition;IZ)V"⟩, prog_3_method_5_code, 6, none, 4)
def m_Cd_init : pmM := (⟨"HotEditions$Code", "<init>", "()V"⟩, prog_4_method_1_code, 1, none, 1)
def m_Cd_clear : pmM := (⟨"HotEditions$Code", "clear", "()V"⟩, prog_4_method_2_code, 1, none, 1)
def m_Cd_become : pmM := (⟨"HotEditions$Code", "become", "(LHotEditions$Code;)V"⟩, prog_4_method_3_code, 2, none, 1)
def m_Cd_add : pmM := (⟨"HotEditions$Code", "add", "(III)Z"⟩, prog_4_method_4_code, 4, some FieldType.boolean, 1)
def m_Cd_opAt : pmM := (⟨"HotEditions$Code", "opAt", "(I)I"⟩, prog_4_method_5_code, 2, some FieldType.int, 1)
def m_Cd_firstOperandAt : pmM := (⟨"HotEditions$Code", "firstOperandAt", "(I)I"⟩, prog_4_method_6_code, 2, some FieldType.int, 1)
def m_Cd_secondOperandAt : pmM := (⟨"HotEditions$Code", "secondOperandAt", "(I)I"⟩, prog_4_method_7_code, 2, some FieldType.int, 1)
def m_Cd_raiseAdditions : pmM := (⟨"HotEditions$Code", "raiseAdditions", "(I)V"⟩, prog_4_method_8_code, 3, none, 2)
def m_Df_init : pmM := (⟨"HotEditions$Definition", "<init>", "()V"⟩, prog_5_method_1_code, 2, none, 3)
def m_Df_clear : pmM := (⟨"HotEditions$Definition", "clear", "()V"⟩, prog_5_method_2_code, 1, none, 1)
def m_Df_become : pmM := (⟨"HotEditions$Definition", "become", "(LHotEditions$Definition;)V"⟩, prog_5_method_3_code, 3, none, 3)
def m_Df_addInterface : pmM := (⟨"HotEditions$Definition", "addInterface", "(I)Z"⟩, prog_5_method_4_code, 2, some FieldType.boolean, 1)
def m_Df_addField : pmM := (⟨"HotEditions$Definition", "addField", "(III)Z"⟩, prog_5_method_5_code, 4, some FieldType.boolean, 1)
def m_Df_addMethod : pmM := (⟨"HotEditions$Definition", "addMethod", "(II)Z"⟩, prog_5_method_6_code, 4, some FieldType.boolean, 2)
def m_Df_findMethod : pmM := (⟨"HotEditions$Definition", "findMethod", "(I)LHotEditions$Method;"⟩, prog_5_method_7_code, 3, some (FieldType.object "HotEditions$Method"), 1)
def m_Df_hasInterface : pmM := (⟨"HotEditions$Definition", "hasInterface", "(I)Z"⟩, prog_5_method_8_code, 3, some FieldType.boolean, 1)
def m_Df_hasEqualInterfaces : pmM := (⟨"HotEditions$Definition", "hasEqualInterfaces", "()Z"⟩, prog_5_method_9_code, 3, some FieldType.boolean, 1)
def m_Df_hasFieldsOfOneName : pmM := (⟨"HotEditions$Definition", "hasFieldsOfOneName", "()Z"⟩, prog_5_method_10_code, 3, some FieldType.boolean, 1)
def m_Df_hasMethodsOfOneName : pmM := (⟨"HotEditions$Definition", "hasMethodsOfOneName", "()Z"⟩, prog_5_method_11_code, 3, some FieldType.boolean, 1)
def m_Df_hasFieldsOf : pmM := (⟨"HotEditions$Definition", "hasFieldsOf", "(LHotEditions$Definition;)Z"⟩, prog_5_method_12_code, 3, some FieldType.boolean, 1)
def m_Df_hasInterfacesOf : pmM := (⟨"HotEditions$Definition", "hasInterfacesOf", "(LHotEditions$Definition;)Z"⟩, prog_5_method_13_code, 3, some FieldType.boolean, 2)
def m_Df_hasMethodNamesOf : pmM := (⟨"HotEditions$Definition", "hasMethodNamesOf", "(LHotEditions$Definition;)Z"⟩, prog_5_method_14_code, 3, some FieldType.boolean, 2)
def m_Df_hasMethodFlagsOf : pmM := (⟨"HotEditions$Definition", "hasMethodFlagsOf", "(LHotEditions$Definition;)Z"⟩, prog_5_method_15_code, 4, some FieldType.boolean, 2)
def m_Fr_init : pmM := (⟨"HotEditions$Frame", "<init>", "()V"⟩, prog_6_method_1_code, 1, none, 2)
def m_Fr_begin : pmM := (⟨"HotEditions$Frame", "begin", "(IILHotEditions$Code;)V"⟩, prog_6_method_2_code, 4, none, 2)
def m_Lc_init : pmM := (⟨"HotEditions$LoadedClass", "<init>", "()V"⟩, prog_7_method_1_code, 1, none, 4)
def m_Lc_addEdition : pmM := (⟨"HotEditions$LoadedClass", "addEdition", "(LHotEditions$Definition;)V"⟩, prog_7_method_2_code, 2, none, 4)
def m_Mt_init : pmM := (⟨"HotEditions$Method", "<init>", "()V"⟩, prog_8_method_1_code, 1, none, 2)
def m_Mt_become : pmM := (⟨"HotEditions$Method", "become", "(LHotEditions$Method;)V"⟩, prog_8_method_2_code, 2, none, 2)
def m_Ru_firstBroken : pmM := (⟨"HotEditions$Rules", "firstBroken", "(LHotEditions$Definition;ILHotEditions$Definition;LHotEditions$Shelf;)I"⟩, prog_9_method_2_code, 5, some FieldType.int, 5)
def m_Ru_firstBrokenAlone : pmM := (⟨"HotEditions$Rules", "firstBrokenAlone", "(LHotEditions$Definition;LHotEditions$Shelf;)I"⟩, prog_9_method_3_code, 2, some FieldType.int, 4)
def m_Ru_firstBrokenBeside : pmM := (⟨"HotEditions$Rules", "firstBrokenBeside", "(LHotEditions$Definition;ILHotEditions$Definition;)I"⟩, prog_9_method_4_code, 3, some FieldType.int, 3)
def m_Ru_hasUnknownOp : pmM := (⟨"HotEditions$Rules", "hasUnknownOp", "(LHotEditions$Definition;)Z"⟩, prog_9_method_5_code, 4, some FieldType.boolean, 2)
def m_Ru_meetsItselfAbove : pmM := (⟨"HotEditions$Rules", "meetsItselfAbove", "(LHotEditions$Definition;LHotEditions$Shelf;)Z"⟩, prog_9_method_6_code, 5, some FieldType.boolean, 2)
def m_Ru_lacksSuper : pmM := (⟨"HotEditions$Rules", "lacksSuper", "(LHotEditions$Definition;LHotEditions$Shelf;)Z"⟩, prog_9_method_7_code, 2, some FieldType.boolean, 2)
def m_Ru_lacksCalledMethod : pmM := (⟨"HotEditions$Rules", "lacksCalledMethod", "(LHotEditions$Definition;LHotEditions$Shelf;)Z"⟩, prog_9_method_8_code, 5, some FieldType.boolean, 3)
def m_Ru_isCallable : pmM := (⟨"HotEditions$Rules", "isCallable", "(LHotEditions$Definition;IILHotEditions$Shelf;)Z"⟩, prog_9_method_9_code, 5, some FieldType.boolean, 2)
def m_Sh_init : pmM := (⟨"HotEditions$Shelf", "<init>", "()V"⟩, prog_10_method_1_code, 1, none, 1)
def m_Sh_find : pmM := (⟨"HotEditions$Shelf", "find", "(I)LHotEditions$LoadedClass;"⟩, prog_10_method_2_code, 2, some (FieldType.object "HotEditions$LoadedClass"), 1)
def m_Sh_add : pmM := (⟨"HotEditions$Shelf", "add", "(ILHotEditions$Trial;)V"⟩, prog_10_method_3_code, 4, none, 5)
def m_Tf_init : pmM := (⟨"HotEditions$Transformer", "<init>", "()V"⟩, prog_11_method_1_code, 1, none, 1)
def m_Tf_isFor : pmM := (⟨"HotEditions$Transformer", "isFor", "(I)Z"⟩, prog_11_method_2_code, 2, some FieldType.boolean, 1)
def m_Tf_change : pmM := (⟨"HotEditions$Transformer", "change", "(LHotEditions$Definition;)V"⟩, prog_11_method_3_code, 3, none, 3)
def m_Tf_emptyAllCode : pmM := (⟨"HotEditions$Transformer", "emptyAllCode", "(LHotEditions$Definition;)V"⟩, prog_11_method_4_code, 2, none, 2)
def m_Tr_init : pmM := (⟨"HotEditions$Trial", "<init>", "()V"⟩, prog_12_method_1_code, 1, none, 4)
def m_Tr_take : pmM := (⟨"HotEditions$Trial", "take", "(LHotEditions$Definition;I)V"⟩, prog_12_method_2_code, 3, none, 4)
def m_Lw_law : pmM := (⟨"HotEditionsLaw", "law", "([I)Z"⟩, code, 4, some FieldType.boolean, 8)
end
section
/-! The tables' words that are used, each with its place. -/
theorem w_0 : (Jvm.Cond.initialized "HotEditionsLaw") ∈ pmWs := pmWs_1 (List.mem_of_getElem? (i := 0) rfl) rfl
theorem w_1 : (Jvm.Cond.initialized "HotEditions") ∈ pmWs := pmWs_1 (List.mem_of_getElem? (i := 1) rfl) rfl
theorem w_2 : (Jvm.Cond.initialized "HotEditions$Definition") ∈ pmWs := pmWs_1 (List.mem_of_getElem? (i := 2) rfl) rfl
theorem w_3 : (Jvm.Cond.initialized "HotEditions$Method") ∈ pmWs := pmWs_1 (List.mem_of_getElem? (i := 3) rfl) rfl
theorem w_4 : (Jvm.Cond.initialized "HotEditions$Code") ∈ pmWs := pmWs_1 (List.mem_of_getElem? (i := 4) rfl) rfl
theorem w_5 : (Jvm.Cond.initialized "HotEditions$Shelf") ∈ pmWs := pmWs_1 (List.mem_of_getElem? (i := 5) rfl) rfl
theorem w_6 : (Jvm.Cond.initialized "HotEditions$Chain") ∈ pmWs := pmWs_1 (List.mem_of_getElem? (i := 6) rfl) rfl
theorem w_7 : (Jvm.Cond.initialized "HotEditions$Transformer") ∈ pmWs := pmWs_1 (List.mem_of_getElem? (i := 7) rfl) rfl
theorem w_8 : (Jvm.Cond.initialized "HotEditions$Trial") ∈ pmWs := pmWs_1 (List.mem_of_getElem? (i := 8) rfl) rfl
theorem w_9 : (Jvm.Cond.initialized "HotEditions$Calls") ∈ pmWs := pmWs_1 (List.mem_of_getElem? (i := 9) rfl) rfl
theorem w_10 : (Jvm.Cond.initialized "HotEditions$Frame") ∈ pmWs := pmWs_1 (List.mem_of_getElem? (i := 10) rfl) rfl
theorem w_11 : (Jvm.Cond.initialized "HotEditionsModel") ∈ pmWs := pmWs_1 (List.mem_of_getElem? (i := 11) rfl) rfl
theorem w_12 : (Jvm.Cond.initialized "java/lang/System") ∈ pmWs := pmWs_1 (List.mem_of_getElem? (i := 12) rfl) rfl
theorem w_13 : (Jvm.Cond.initialized "HotEditions$Rules") ∈ pmWs := pmWs_1 (List.mem_of_getElem? (i := 13) rfl) rfl
theorem w_14 : (Jvm.Cond.initialized "HotEditions$LoadedClass") ∈ pmWs := pmWs_1 (List.mem_of_getElem? (i := 14) rfl) rfl
theorem w_15 : (Jvm.Cond.classLink "HotEditionsLaw" (7 : Nat) "HotEditions") ∈ pmWs := pmWs_1 (List.mem_of_getElem? (i := 15) rfl) rfl
theorem w_16 : (Jvm.Cond.instantiable "HotEditions" (8 : Nat)) ∈ pmWs := pmWs_1 (List.mem_of_getElem? (i := 16) rfl) rfl
theorem w_17 : (Jvm.Cond.methodLink "HotEditionsLaw" (9 : Nat) ({ cls := "HotEditions", name := "<init>", desc := "()V" } : MethodName)) ∈ pmWs := pmWs_1 (List.mem_of_getElem? (i := 17) rfl) rfl
theorem w_18 : (Jvm.Cond.instanceMethod ({ cls := "HotEditions", name := "<init>", desc := "()V" } : MethodName)) ∈ pmWs := pmWs_1 (List.mem_of_getElem? (i := 18) rfl) rfl
theorem w_19 : (Jvm.Cond.code ({ cls := "HotEditions", name := "<init>", desc := "()V" } : MethodName) prog_1_method_1_code (2 : Nat) (Option.none : Option FieldType)) ∈ pmWs := pmWs_1 (List.mem_of_getElem? (i := 19) rfl) rfl
theorem w_20 : (Jvm.Cond.methodLink "HotEditions" (1 : Nat) ({ cls := "java/lang/Object", name := "<init>", desc := "()V" } : MethodName)) ∈ pmWs := pmWs_1 (List.mem_of_getElem? (i := 20) rfl) rfl
theorem w_21 : (Jvm.Cond.instanceMethod ({ cls := "java/lang/Object", name := "<init>", desc := "()V" } : MethodName)) ∈ pmWs := pmWs_1 (List.mem_of_getElem? (i := 21) rfl) rfl
theorem w_22 : (Jvm.Cond.code ({ cls := "java/lang/Object", name := "<init>", desc := "()V" } : MethodName) object_method_1_code (1 : Nat) (Option.none : Option FieldType)) ∈ pmWs := pmWs_1 (List.mem_of_getElem? (i := 22) rfl) rfl
theorem w_23 : (Jvm.Cond.classLink "HotEditions" (7 : Nat) "HotEditions$Definition") ∈ pmWs := pmWs_1 (List.mem_of_getElem? (i := 23) rfl) rfl
theorem w_24 : (Jvm.Cond.instantiable "HotEditions$Definition" (7 : Nat)) ∈ pmWs := pmWs_1 (List.mem_of_getElem? (i := 24) rfl) rfl
theorem w_25 : (Jvm.Cond.methodLink "HotEditions" (9 : Nat) ({ cls := "HotEditions$Definition", name := "<init>", desc := "()V" } : MethodName)) ∈ pmWs := pmWs_1 (List.mem_of_getElem? (i := 25) rfl) rfl
theorem w_26 : (Jvm.Cond.instanceMethod ({ cls := "HotEditions$Definition", name := "<init>", desc := "()V" } : MethodName)) ∈ pmWs := pmWs_1 (List.mem_of_getElem? (i := 26) rfl) rfl
theorem w_27 : (Jvm.Cond.code ({ cls := "HotEditions$Definition", name := "<init>", desc := "()V" } : MethodName) prog_5_method_1_code (2 : Nat) (Option.none : Option FieldType)) ∈ pmWs := pmWs_1 (List.mem_of_getElem? (i := 27) rfl) rfl
theorem w_28 : (Jvm.Cond.methodLink "HotEditions$Definition" (3 : Nat) ({ cls := "java/lang/Object", name := "<init>", desc := "()V" } : MethodName)) ∈ pmWs := pmWs_1 (List.mem_of_getElem? (i := 28) rfl) rfl
theorem w_29 : (Jvm.Cond.classLink "HotEditions$Definition" (28 : Nat) "HotEditions$Method") ∈ pmWs := pmWs_1 (List.mem_of_getElem? (i := 29) rfl) rfl
theorem w_30 : (Jvm.Cond.arrayOver (FieldType.object "HotEditions$Method")) ∈ pmWs := pmWs_1 (List.mem_of_getElem? (i := 30) rfl) rfl
theorem w_31 : (Jvm.Cond.instantiable "HotEditions$Method" (3 : Nat)) ∈ pmWs := pmWs_1 (List.mem_of_getElem? (i := 31) rfl) rfl
theorem w_32 : (Jvm.Cond.methodLinkNest "HotEditions$Definition" (37 : Nat) ({ cls := "HotEditions$Method", name := "<init>", desc := "()V" } : MethodName) "HotEditions") ∈ pmWs := pmWs_1 (List.mem_of_getElem? (i := 32) rfl) rfl
theorem w_33 : (Jvm.Cond.instanceMethod ({ cls := "HotEditions$Method", name := "<init>", desc := "()V" } : MethodName)) ∈ pmWs := pmWs_1 (List.mem_of_getElem? (i := 33) rfl) rfl
theorem w_34 : (Jvm.Cond.code ({ cls := "HotEditions$Method", name := "<init>", desc := "()V" } : MethodName) prog_8_method_1_code (1 : Nat) (Option.none : Option FieldType)) ∈ pmWs := pmWs_1 (List.mem_of_getElem? (i := 34) rfl) rfl
theorem w_35 : (Jvm.Cond.methodLink "HotEditions$Method" (1 : Nat) ({ cls := "java/lang/Object", name := "<init>", desc := "()V" } : MethodName)) ∈ pmWs := pmWs_1 (List.mem_of_getElem? (i := 35) rfl) rfl
theorem w_36 : (Jvm.Cond.classLink "HotEditions$Method" (16 : Nat) "HotEditions$Code") ∈ pmWs := pmWs_1 (List.mem_of_getElem? (i := 36) rfl) rfl
theorem w_37 : (Jvm.Cond.instantiable "HotEditions$Code" (2 : Nat)) ∈ pmWs := pmWs_1 (List.mem_of_getElem? (i := 37) rfl) rfl
theorem w_38 : (Jvm.Cond.methodLinkNest "HotEditions$Method" (18 : Nat) ({ cls := "HotEditions$Code", name := "<init>", desc := "()V" } : MethodName) "HotEditions") ∈ pmWs := pmWs_1 (List.mem_of_getElem? (i := 38) rfl) rfl
theorem w_39 : (Jvm.Cond.instanceMethod ({ cls := "HotEditions$Code", name := "<init>", desc := "()V" } : MethodName)) ∈ pmWs := pmWs_1 (List.mem_of_getElem? (i := 39) rfl) rfl
theorem w_40 : (Jvm.Cond.code ({ cls := "HotEditions$Code", name := "<init>", desc := "()V" } : MethodName) prog_4_method_1_code (1 : Nat) (Option.none : Option FieldType)) ∈ pmWs := pmWs_1 (List.mem_of_getElem? (i := 40) rfl) rfl
theorem w_41 : (Jvm.Cond.methodLink "HotEditions$Code" (3 : Nat) ({ cls := "java/lang/Object", name := "<init>", desc := "()V" } : MethodName)) ∈ pmWs := pmWs_1 (List.mem_of_getElem? (i := 41) rfl) rfl
theorem w_42 : (Jvm.Cond.fieldLink "HotEditions$Code" (11 : Nat) "HotEditions$Code" "cells" "[I") ∈ pmWs := pmWs_1 (List.mem_of_getElem? (i := 42) rfl) rfl
theorem w_43 : (Jvm.Cond.fieldLink "HotEditions$Code" (15 : Nat) "HotEditions$Code" "length" "I") ∈ pmWs := pmWs_1 (List.mem_of_getElem? (i := 43) rfl) rfl
theorem w_44 : (Jvm.Cond.fieldLinkNest "HotEditions$Calls" (60 : Nat) "HotEditions$Code" "length" "I" "HotEditions") ∈ pmWs := pmWs_1 (List.mem_of_getElem? (i := 44) rfl) rfl
theorem w_45 : (Jvm.Cond.fieldLinkNest "HotEditions$Rules" (75 : Nat) "HotEditions$Code" "length" "I" "HotEditions") ∈ pmWs := pmWs_1 (List.mem_of_getElem? (i := 45) rfl) rfl
theorem w_46 : (Jvm.Cond.laysFinal "HotEditions$Code" "HotEditions$Code" "cells" "[I") ∈ pmWs := pmWs_1 (List.mem_of_getElem? (i := 46) rfl) rfl
theorem w_48 : (Jvm.Cond.lays "HotEditions$Code" "HotEditions$Code" "length" "I") ∈ pmWs := pmWs_1 (List.mem_of_getElem? (i := 48) rfl) rfl
theorem w_51 : (Jvm.Cond.arrayClass FieldType.int) ∈ pmWs := pmWs_1 (List.mem_of_getElem? (i := 51) rfl) rfl
theorem w_52 : (Jvm.Cond.fieldLink "HotEditions$Method" (7 : Nat) "HotEditions$Method" "name" "I") ∈ pmWs := pmWs_1 (List.mem_of_getElem? (i := 52) rfl) rfl
theorem w_53 : (Jvm.Cond.fieldLinkNest "HotEditions$Transformer" (61 : Nat) "HotEditions$Method" "name" "I" "HotEditions") ∈ pmWs := pmWs_1 (List.mem_of_getElem? (i := 53) rfl) rfl
theorem w_54 : (Jvm.Cond.fieldLinkNest "HotEditions$Definition" (51 : Nat) "HotEditions$Method" "name" "I" "HotEditions") ∈ pmWs := pmWs_1 (List.mem_of_getElem? (i := 54) rfl) rfl
theorem w_55 : (Jvm.Cond.fieldLink "HotEditions$Method" (13 : Nat) "HotEditions$Method" "flags" "I") ∈ pmWs := pmWs_1 (List.mem_of_getElem? (i := 55) rfl) rfl
theorem w_56 : (Jvm.Cond.fieldLinkNest "HotEditions$Definition" (54 : Nat) "HotEditions$Method" "flags" "I" "HotEditions") ∈ pmWs := pmWs_1 (List.mem_of_getElem? (i := 56) rfl) rfl
theorem w_57 : (Jvm.Cond.fieldLink "HotEditions$Method" (19 : Nat) "HotEditions$Method" "body" "LHotEditions$Code;") ∈ pmWs := pmWs_1 (List.mem_of_getElem? (i := 57) rfl) rfl
theorem w_58 : (Jvm.Cond.fieldLinkNest "HotEditions$Calls" (46 : Nat) "HotEditions$Method" "body" "LHotEditions$Code;" "HotEditions") ∈ pmWs := pmWs_1 (List.mem_of_getElem? (i := 58) rfl) rfl
theorem w_59 : (Jvm.Cond.fieldLinkNest "HotEditions$Transformer" (37 : Nat) "HotEditions$Method" "body" "LHotEditions$Code;" "HotEditions") ∈ pmWs := pmWs_1 (List.mem_of_getElem? (i := 59) rfl) rfl
theorem w_60 : (Jvm.Cond.fieldLinkNest "HotEditions$Rules" (69 : Nat) "HotEditions$Method" "body" "LHotEditions$Code;" "HotEditions") ∈ pmWs := pmWs_1 (List.mem_of_getElem? (i := 60) rfl) rfl
theorem w_61 : (Jvm.Cond.fieldLinkNest "HotEditions$Definition" (57 : Nat) "HotEditions$Method" "body" "LHotEditions$Code;" "HotEditions") ∈ pmWs := pmWs_1 (List.mem_of_getElem? (i := 61) rfl) rfl
theorem w_62 : (Jvm.Cond.fieldLinkNest "HotEditions" (94 : Nat) "HotEditions$Method" "body" "LHotEditions$Code;" "HotEditions") ∈ pmWs := pmWs_1 (List.mem_of_getElem? (i := 62) rfl) rfl
theorem w_63 : (Jvm.Cond.lays "HotEditions$Method" "HotEditions$Method" "name" "I") ∈ pmWs := pmWs_1 (List.mem_of_getElem? (i := 63) rfl) rfl
theorem w_65 : (Jvm.Cond.lays "HotEditions$Method" "HotEditions$Method" "flags" "I") ∈ pmWs := pmWs_1 (List.mem_of_getElem? (i := 65) rfl) rfl
theorem w_67 : (Jvm.Cond.laysFinal "HotEditions$Method" "HotEditions$Method" "body" "LHotEditions$Code;") ∈ pmWs := pmWs_1 (List.mem_of_getElem? (i := 67) rfl) rfl
theorem w_70 : (Jvm.Cond.methodLink "HotEditions$Definition" (38 : Nat) ({ cls := "HotEditions$Definition", name := "clear", desc := "()V" } : MethodName)) ∈ pmWs := pmWs_1 (List.mem_of_getElem? (i := 70) rfl) rfl
theorem w_71 : (Jvm.Cond.instanceMethod ({ cls := "HotEditions$Definition", name := "clear", desc := "()V" } : MethodName)) ∈ pmWs := pmWs_1 (List.mem_of_getElem? (i := 71) rfl) rfl
theorem w_72 : (Jvm.Cond.selects "HotEditions$Definition" ({ cls := "HotEditions$Definition", name := "clear", desc := "()V" } : MethodName) ({ cls := "HotEditions$Definition", name := "clear", desc := "()V" } : MethodName)) ∈ pmWs := pmWs_1 (List.mem_of_getElem? (i := 72) rfl) rfl
theorem w_73 : (Jvm.Cond.code ({ cls := "HotEditions$Definition", name := "clear", desc := "()V" } : MethodName) prog_5_method_2_code (1 : Nat) (Option.none : Option FieldType)) ∈ pmWs := pmWs_1 (List.mem_of_getElem? (i := 73) rfl) rfl
theorem w_74 : (Jvm.Cond.fieldLink "HotEditions$Definition" (9 : Nat) "HotEditions$Definition" "parts" "[I") ∈ pmWs := pmWs_1 (List.mem_of_getElem? (i := 74) rfl) rfl
theorem w_75 : (Jvm.Cond.fieldLinkNest "HotEditions$Rules" (19 : Nat) "HotEditions$Definition" "parts" "[I" "HotEditions") ∈ pmWs := pmWs_1 (List.mem_of_getElem? (i := 75) rfl) rfl
theorem w_76 : (Jvm.Cond.fieldLinkNest "HotEditions$Transformer" (49 : Nat) "HotEditions$Definition" "parts" "[I" "HotEditions") ∈ pmWs := pmWs_1 (List.mem_of_getElem? (i := 76) rfl) rfl
theorem w_77 : (Jvm.Cond.fieldLinkNest "HotEditions" (71 : Nat) "HotEditions$Definition" "parts" "[I" "HotEditions") ∈ pmWs := pmWs_1 (List.mem_of_getElem? (i := 77) rfl) rfl
theorem w_78 : (Jvm.Cond.fieldLink "HotEditions$Definition" (15 : Nat) "HotEditions$Definition" "interfaces" "[I") ∈ pmWs := pmWs_1 (List.mem_of_getElem? (i := 78) rfl) rfl
theorem w_79 : (Jvm.Cond.fieldLink "HotEditions$Definition" (18 : Nat) "HotEditions$Definition" "interfaceCount" "I") ∈ pmWs := pmWs_1 (List.mem_of_getElem? (i := 79) rfl) rfl
theorem w_80 : (Jvm.Cond.fieldLink "HotEditions$Definition" (22 : Nat) "HotEditions$Definition" "fieldCells" "[I") ∈ pmWs := pmWs_1 (List.mem_of_getElem? (i := 80) rfl) rfl
theorem w_81 : (Jvm.Cond.fieldLink "HotEditions$Definition" (25 : Nat) "HotEditions$Definition" "fieldCount" "I") ∈ pmWs := pmWs_1 (List.mem_of_getElem? (i := 81) rfl) rfl
theorem w_82 : (Jvm.Cond.fieldLink "HotEditions$Definition" (30 : Nat) "HotEditions$Definition" "methods" "[LHotEditions$Method;") ∈ pmWs := pmWs_1 (List.mem_of_getElem? (i := 82) rfl) rfl
theorem w_83 : (Jvm.Cond.fieldLinkNest "HotEditions$Transformer" (33 : Nat) "HotEditions$Definition" "methods" "[LHotEditions$Method;" "HotEditions") ∈ pmWs := pmWs_1 (List.mem_of_getElem? (i := 83) rfl) rfl
theorem w_84 : (Jvm.Cond.fieldLinkNest "HotEditions$Rules" (65 : Nat) "HotEditions$Definition" "methods" "[LHotEditions$Method;" "HotEditions") ∈ pmWs := pmWs_1 (List.mem_of_getElem? (i := 84) rfl) rfl
theorem w_85 : (Jvm.Cond.fieldLinkNest "HotEditions" (90 : Nat) "HotEditions$Definition" "methods" "[LHotEditions$Method;" "HotEditions") ∈ pmWs := pmWs_1 (List.mem_of_getElem? (i := 85) rfl) rfl
theorem w_86 : (Jvm.Cond.fieldLink "HotEditions$Definition" (34 : Nat) "HotEditions$Definition" "methodCount" "I") ∈ pmWs := pmWs_1 (List.mem_of_getElem? (i := 86) rfl) rfl
theorem w_87 : (Jvm.Cond.fieldLinkNest "HotEditions$Transformer" (28 : Nat) "HotEditions$Definition" "methodCount" "I" "HotEditions") ∈ pmWs := pmWs_1 (List.mem_of_getElem? (i := 87) rfl) rfl
theorem w_88 : (Jvm.Cond.fieldLinkNest "HotEditions$Rules" (61 : Nat) "HotEditions$Definition" "methodCount" "I" "HotEditions") ∈ pmWs := pmWs_1 (List.mem_of_getElem? (i := 88) rfl) rfl
theorem w_89 : (Jvm.Cond.fieldLinkNest "HotEditions" (87 : Nat) "HotEditions$Definition" "methodCount" "I" "HotEditions") ∈ pmWs := pmWs_1 (List.mem_of_getElem? (i := 89) rfl) rfl
theorem w_90 : (Jvm.Cond.laysFinal "HotEditions$Definition" "HotEditions$Definition" "parts" "[I") ∈ pmWs := pmWs_1 (List.mem_of_getElem? (i := 90) rfl) rfl
theorem w_92 : (Jvm.Cond.laysFinal "HotEditions$Definition" "HotEditions$Definition" "interfaces" "[I") ∈ pmWs := pmWs_1 (List.mem_of_getElem? (i := 92) rfl) rfl
theorem w_94 : (Jvm.Cond.lays "HotEditions$Definition" "HotEditions$Definition" "interfaceCount" "I") ∈ pmWs := pmWs_1 (List.mem_of_getElem? (i := 94) rfl) rfl
theorem w_96 : (Jvm.Cond.laysFinal "HotEditions$Definition" "HotEditions$Definition" "fieldCells" "[I") ∈ pmWs := pmWs_1 (List.mem_of_getElem? (i := 96) rfl) rfl
theorem w_98 : (Jvm.Cond.lays "HotEditions$Definition" "HotEditions$Definition" "fieldCount" "I") ∈ pmWs := pmWs_1 (List.mem_of_getElem? (i := 98) rfl) rfl
theorem w_100 : (Jvm.Cond.laysFinal "HotEditions$Definition" "HotEditions$Definition" "methods" "[LHotEditions$Method;") ∈ pmWs := pmWs_1 (List.mem_of_getElem? (i := 100) rfl) rfl
theorem w_102 : (Jvm.Cond.lays "HotEditions$Definition" "HotEditions$Definition" "methodCount" "I") ∈ pmWs := pmWs_1 (List.mem_of_getElem? (i := 102) rfl) rfl
theorem w_105 : (Jvm.Cond.classLink "HotEditions" (20 : Nat) "HotEditions$Shelf") ∈ pmWs := pmWs_1 (List.mem_of_getElem? (i := 105) rfl) rfl
theorem w_106 : (Jvm.Cond.instantiable "HotEditions$Shelf" (1 : Nat)) ∈ pmWs := pmWs_1 (List.mem_of_getElem? (i := 106) rfl) rfl
theorem w_107 : (Jvm.Cond.methodLinkNest "HotEditions" (22 : Nat) ({ cls := "HotEditions$Shelf", name := "<init>", desc := "()V" } : MethodName) "HotEditions") ∈ pmWs := pmWs_1 (List.mem_of_getElem? (i := 107) rfl) rfl
theorem w_108 : (Jvm.Cond.instanceMethod ({ cls := "HotEditions$Shelf", name := "<init>", desc := "()V" } : MethodName)) ∈ pmWs := pmWs_1 (List.mem_of_getElem? (i := 108) rfl) rfl
theorem w_109 : (Jvm.Cond.code ({ cls := "HotEditions$Shelf", name := "<init>", desc := "()V" } : MethodName) prog_10_method_1_code (1 : Nat) (Option.none : Option FieldType)) ∈ pmWs := pmWs_1 (List.mem_of_getElem? (i := 109) rfl) rfl
theorem w_110 : (Jvm.Cond.methodLink "HotEditions$Shelf" (3 : Nat) ({ cls := "java/lang/Object", name := "<init>", desc := "()V" } : MethodName)) ∈ pmWs := pmWs_1 (List.mem_of_getElem? (i := 110) rfl) rfl
theorem w_111 : (Jvm.Cond.classLink "HotEditions$Shelf" (9 : Nat) "HotEditions$LoadedClass") ∈ pmWs := pmWs_1 (List.mem_of_getElem? (i := 111) rfl) rfl
theorem w_112 : (Jvm.Cond.arrayOver (FieldType.object "HotEditions$LoadedClass")) ∈ pmWs := pmWs_1 (List.mem_of_getElem? (i := 112) rfl) rfl
theorem w_113 : (Jvm.Cond.fieldLink "HotEditions$Shelf" (11 : Nat) "HotEditions$Shelf" "places" "[LHotEditions$LoadedClass;") ∈ pmWs := pmWs_1 (List.mem_of_getElem? (i := 113) rfl) rfl
theorem w_114 : (Jvm.Cond.laysFinal "HotEditions$Shelf" "HotEditions$Shelf" "places" "[LHotEditions$LoadedClass;") ∈ pmWs := pmWs_1 (List.mem_of_getElem? (i := 114) rfl) rfl
theorem w_117 : (Jvm.Cond.classLink "HotEditions" (27 : Nat) "HotEditions$Chain") ∈ pmWs := pmWs_1 (List.mem_of_getElem? (i := 117) rfl) rfl
theorem w_118 : (Jvm.Cond.instantiable "HotEditions$Chain" (1 : Nat)) ∈ pmWs := pmWs_1 (List.mem_of_getElem? (i := 118) rfl) rfl
theorem w_119 : (Jvm.Cond.methodLink "HotEditions" (29 : Nat) ({ cls := "HotEditions$Chain", name := "<init>", desc := "()V" } : MethodName)) ∈ pmWs := pmWs_1 (List.mem_of_getElem? (i := 119) rfl) rfl
theorem w_120 : (Jvm.Cond.instanceMethod ({ cls := "HotEditions$Chain", name := "<init>", desc := "()V" } : MethodName)) ∈ pmWs := pmWs_1 (List.mem_of_getElem? (i := 120) rfl) rfl
theorem w_121 : (Jvm.Cond.code ({ cls := "HotEditions$Chain", name := "<init>", desc := "()V" } : MethodName) prog_3_method_1_code (2 : Nat) (Option.none : Option FieldType)) ∈ pmWs := pmWs_1 (List.mem_of_getElem? (i := 121) rfl) rfl
theorem w_122 : (Jvm.Cond.methodLink "HotEditions$Chain" (3 : Nat) ({ cls := "java/lang/Object", name := "<init>", desc := "()V" } : MethodName)) ∈ pmWs := pmWs_1 (List.mem_of_getElem? (i := 122) rfl) rfl
theorem w_123 : (Jvm.Cond.classLink "HotEditions$Chain" (9 : Nat) "HotEditions$Transformer") ∈ pmWs := pmWs_1 (List.mem_of_getElem? (i := 123) rfl) rfl
theorem w_124 : (Jvm.Cond.arrayOver (FieldType.object "HotEditions$Transformer")) ∈ pmWs := pmWs_1 (List.mem_of_getElem? (i := 124) rfl) rfl
theorem w_125 : (Jvm.Cond.instantiable "HotEditions$Transformer" (5 : Nat)) ∈ pmWs := pmWs_1 (List.mem_of_getElem? (i := 125) rfl) rfl
theorem w_126 : (Jvm.Cond.methodLinkNest "HotEditions$Chain" (17 : Nat) ({ cls := "HotEditions$Transformer", name := "<init>", desc := "()V" } : MethodName) "HotEditions") ∈ pmWs := pmWs_1 (List.mem_of_getElem? (i := 126) rfl) rfl
theorem w_127 : (Jvm.Cond.instanceMethod ({ cls := "HotEditions$Transformer", name := "<init>", desc := "()V" } : MethodName)) ∈ pmWs := pmWs_1 (List.mem_of_getElem? (i := 127) rfl) rfl
theorem w_128 : (Jvm.Cond.code ({ cls := "HotEditions$Transformer", name := "<init>", desc := "()V" } : MethodName) prog_11_method_1_code (1 : Nat) (Option.none : Option FieldType)) ∈ pmWs := pmWs_1 (List.mem_of_getElem? (i := 128) rfl) rfl
theorem w_129 : (Jvm.Cond.methodLink "HotEditions$Transformer" (3 : Nat) ({ cls := "java/lang/Object", name := "<init>", desc := "()V" } : MethodName)) ∈ pmWs := pmWs_1 (List.mem_of_getElem? (i := 129) rfl) rfl
theorem w_130 : (Jvm.Cond.fieldLink "HotEditions$Transformer" (9 : Nat) "HotEditions$Transformer" "present" "Z") ∈ pmWs := pmWs_1 (List.mem_of_getElem? (i := 130) rfl) rfl
theorem w_131 : (Jvm.Cond.fieldLinkNest "HotEditions$Chain" (18 : Nat) "HotEditions$Transformer" "present" "Z" "HotEditions") ∈ pmWs := pmWs_1 (List.mem_of_getElem? (i := 131) rfl) rfl
theorem w_132 : (Jvm.Cond.fieldLink "HotEditions$Transformer" (15 : Nat) "HotEditions$Transformer" "kind" "I") ∈ pmWs := pmWs_1 (List.mem_of_getElem? (i := 132) rfl) rfl
theorem w_133 : (Jvm.Cond.fieldLinkNest "HotEditions$Chain" (22 : Nat) "HotEditions$Transformer" "kind" "I" "HotEditions") ∈ pmWs := pmWs_1 (List.mem_of_getElem? (i := 133) rfl) rfl
theorem w_134 : (Jvm.Cond.fieldLink "HotEditions$Transformer" (19 : Nat) "HotEditions$Transformer" "value" "I") ∈ pmWs := pmWs_1 (List.mem_of_getElem? (i := 134) rfl) rfl
theorem w_135 : (Jvm.Cond.fieldLinkNest "HotEditions$Chain" (26 : Nat) "HotEditions$Transformer" "value" "I" "HotEditions") ∈ pmWs := pmWs_1 (List.mem_of_getElem? (i := 135) rfl) rfl
theorem w_136 : (Jvm.Cond.fieldLink "HotEditions$Transformer" (22 : Nat) "HotEditions$Transformer" "only" "I") ∈ pmWs := pmWs_1 (List.mem_of_getElem? (i := 136) rfl) rfl
theorem w_137 : (Jvm.Cond.fieldLinkNest "HotEditions$Chain" (29 : Nat) "HotEditions$Transformer" "only" "I" "HotEditions") ∈ pmWs := pmWs_1 (List.mem_of_getElem? (i := 137) rfl) rfl
theorem w_138 : (Jvm.Cond.fieldLink "HotEditions$Transformer" (25 : Nat) "HotEditions$Transformer" "repeats" "Z") ∈ pmWs := pmWs_1 (List.mem_of_getElem? (i := 138) rfl) rfl
theorem w_139 : (Jvm.Cond.fieldLinkNest "HotEditions$Chain" (32 : Nat) "HotEditions$Transformer" "repeats" "Z" "HotEditions") ∈ pmWs := pmWs_1 (List.mem_of_getElem? (i := 139) rfl) rfl
theorem w_140 : (Jvm.Cond.lays "HotEditions$Transformer" "HotEditions$Transformer" "present" "Z") ∈ pmWs := pmWs_1 (List.mem_of_getElem? (i := 140) rfl) rfl
theorem w_142 : (Jvm.Cond.lays "HotEditions$Transformer" "HotEditions$Transformer" "kind" "I") ∈ pmWs := pmWs_1 (List.mem_of_getElem? (i := 142) rfl) rfl
theorem w_144 : (Jvm.Cond.lays "HotEditions$Transformer" "HotEditions$Transformer" "value" "I") ∈ pmWs := pmWs_1 (List.mem_of_getElem? (i := 144) rfl) rfl
theorem w_146 : (Jvm.Cond.lays "HotEditions$Transformer" "HotEditions$Transformer" "only" "I") ∈ pmWs := pmWs_1 (List.mem_of_getElem? (i := 146) rfl) rfl
theorem w_148 : (Jvm.Cond.lays "HotEditions$Transformer" "HotEditions$Transformer" "repeats" "Z") ∈ pmWs := pmWs_1 (List.mem_of_getElem? (i := 148) rfl) rfl
theorem w_151 : (Jvm.Cond.fieldLink "HotEditions$Chain" (11 : Nat) "HotEditions$Chain" "links" "[LHotEditions$Transformer;") ∈ pmWs := pmWs_1 (List.mem_of_getElem? (i := 151) rfl) rfl
theorem w_152 : (Jvm.Cond.laysFinal "HotEditions$Chain" "HotEditions$Chain" "links" "[LHotEditions$Transformer;") ∈ pmWs := pmWs_1 (List.mem_of_getElem? (i := 152) rfl) rfl
theorem w_155 : (Jvm.Cond.classLink "HotEditions" (34 : Nat) "HotEditions$Trial") ∈ pmWs := pmWs_1 (List.mem_of_getElem? (i := 155) rfl) rfl
theorem w_156 : (Jvm.Cond.arrayOver (FieldType.object "HotEditions$Trial")) ∈ pmWs := pmWs_1 (List.mem_of_getElem? (i := 156) rfl) rfl
theorem w_157 : (Jvm.Cond.instantiable "HotEditions$Trial" (3 : Nat)) ∈ pmWs := pmWs_1 (List.mem_of_getElem? (i := 157) rfl) rfl
theorem w_158 : (Jvm.Cond.methodLinkNest "HotEditions" (43 : Nat) ({ cls := "HotEditions$Trial", name := "<init>", desc := "()V" } : MethodName) "HotEditions") ∈ pmWs := pmWs_1 (List.mem_of_getElem? (i := 158) rfl) rfl
theorem w_159 : (Jvm.Cond.instanceMethod ({ cls := "HotEditions$Trial", name := "<init>", desc := "()V" } : MethodName)) ∈ pmWs := pmWs_1 (List.mem_of_getElem? (i := 159) rfl) rfl
theorem w_160 : (Jvm.Cond.code ({ cls := "HotEditions$Trial", name := "<init>", desc := "()V" } : MethodName) prog_12_method_1_code (1 : Nat) (Option.none : Option FieldType)) ∈ pmWs := pmWs_1 (List.mem_of_getElem? (i := 160) rfl) rfl
theorem w_161 : (Jvm.Cond.methodLink "HotEditions$Trial" (3 : Nat) ({ cls := "java/lang/Object", name := "<init>", desc := "()V" } : MethodName)) ∈ pmWs := pmWs_1 (List.mem_of_getElem? (i := 161) rfl) rfl
theorem w_162 : (Jvm.Cond.classLink "HotEditions$Trial" (15 : Nat) "HotEditions$Definition") ∈ pmWs := pmWs_1 (List.mem_of_getElem? (i := 162) rfl) rfl
theorem w_163 : (Jvm.Cond.methodLink "HotEditions$Trial" (17 : Nat) ({ cls := "HotEditions$Definition", name := "<init>", desc := "()V" } : MethodName)) ∈ pmWs := pmWs_1 (List.mem_of_getElem? (i := 163) rfl) rfl
theorem w_164 : (Jvm.Cond.fieldLink "HotEditions$Trial" (9 : Nat) "HotEditions$Trial" "target" "I") ∈ pmWs := pmWs_1 (List.mem_of_getElem? (i := 164) rfl) rfl
theorem w_165 : (Jvm.Cond.fieldLinkNest "HotEditions$Chain" (41 : Nat) "HotEditions$Trial" "target" "I" "HotEditions") ∈ pmWs := pmWs_1 (List.mem_of_getElem? (i := 165) rfl) rfl
theorem w_166 : (Jvm.Cond.fieldLinkNest "HotEditions" (194 : Nat) "HotEditions$Trial" "target" "I" "HotEditions") ∈ pmWs := pmWs_1 (List.mem_of_getElem? (i := 166) rfl) rfl
theorem w_167 : (Jvm.Cond.fieldLink "HotEditions$Trial" (18 : Nat) "HotEditions$Trial" "form" "LHotEditions$Definition;") ∈ pmWs := pmWs_1 (List.mem_of_getElem? (i := 167) rfl) rfl
theorem w_168 : (Jvm.Cond.fieldLinkNest "HotEditions$Shelf" (22 : Nat) "HotEditions$Trial" "form" "LHotEditions$Definition;" "HotEditions") ∈ pmWs := pmWs_1 (List.mem_of_getElem? (i := 168) rfl) rfl
theorem w_169 : (Jvm.Cond.fieldLinkNest "HotEditions$Chain" (35 : Nat) "HotEditions$Trial" "form" "LHotEditions$Definition;" "HotEditions") ∈ pmWs := pmWs_1 (List.mem_of_getElem? (i := 169) rfl) rfl
theorem w_170 : (Jvm.Cond.fieldLinkNest "HotEditions" (114 : Nat) "HotEditions$Trial" "form" "LHotEditions$Definition;" "HotEditions") ∈ pmWs := pmWs_1 (List.mem_of_getElem? (i := 170) rfl) rfl
theorem w_171 : (Jvm.Cond.fieldLink "HotEditions$Trial" (22 : Nat) "HotEditions$Trial" "original" "LHotEditions$Definition;") ∈ pmWs := pmWs_1 (List.mem_of_getElem? (i := 171) rfl) rfl
theorem w_172 : (Jvm.Cond.fieldLinkNest "HotEditions$Shelf" (35 : Nat) "HotEditions$Trial" "original" "LHotEditions$Definition;" "HotEditions") ∈ pmWs := pmWs_1 (List.mem_of_getElem? (i := 172) rfl) rfl
theorem w_173 : (Jvm.Cond.fieldLinkNest "HotEditions$Chain" (48 : Nat) "HotEditions$Trial" "original" "LHotEditions$Definition;" "HotEditions") ∈ pmWs := pmWs_1 (List.mem_of_getElem? (i := 173) rfl) rfl
theorem w_174 : (Jvm.Cond.fieldLinkNest "HotEditions" (197 : Nat) "HotEditions$Trial" "original" "LHotEditions$Definition;" "HotEditions") ∈ pmWs := pmWs_1 (List.mem_of_getElem? (i := 174) rfl) rfl
theorem w_175 : (Jvm.Cond.lays "HotEditions$Trial" "HotEditions$Trial" "target" "I") ∈ pmWs := pmWs_1 (List.mem_of_getElem? (i := 175) rfl) rfl
theorem w_177 : (Jvm.Cond.laysFinal "HotEditions$Trial" "HotEditions$Trial" "form" "LHotEditions$Definition;") ∈ pmWs := pmWs_1 (List.mem_of_getElem? (i := 177) rfl) rfl
theorem w_179 : (Jvm.Cond.laysFinal "HotEditions$Trial" "HotEditions$Trial" "original" "LHotEditions$Definition;") ∈ pmWs := pmWs_1 (List.mem_of_getElem? (i := 179) rfl) rfl
theorem w_182 : (Jvm.Cond.classLink "HotEditions" (48 : Nat) "HotEditions$Calls") ∈ pmWs := pmWs_1 (List.mem_of_getElem? (i := 182) rfl) rfl
theorem w_183 : (Jvm.Cond.arrayOver (FieldType.object "HotEditions$Calls")) ∈ pmWs := pmWs_1 (List.mem_of_getElem? (i := 183) rfl) rfl
theorem w_184 : (Jvm.Cond.instantiable "HotEditions$Calls" (3 : Nat)) ∈ pmWs := pmWs_1 (List.mem_of_getElem? (i := 184) rfl) rfl
theorem w_185 : (Jvm.Cond.methodLink "HotEditions" (54 : Nat) ({ cls := "HotEditions$Calls", name := "<init>", desc := "()V" } : MethodName)) ∈ pmWs := pmWs_1 (List.mem_of_getElem? (i := 185) rfl) rfl
theorem w_186 : (Jvm.Cond.instanceMethod ({ cls := "HotEditions$Calls", name := "<init>", desc := "()V" } : MethodName)) ∈ pmWs := pmWs_1 (List.mem_of_getElem? (i := 186) rfl) rfl
theorem w_187 : (Jvm.Cond.code ({ cls := "HotEditions$Calls", name := "<init>", desc := "()V" } : MethodName) prog_2_method_1_code (2 : Nat) (Option.none : Option FieldType)) ∈ pmWs := pmWs_1 (List.mem_of_getElem? (i := 187) rfl) rfl
theorem w_188 : (Jvm.Cond.methodLink "HotEditions$Calls" (3 : Nat) ({ cls := "java/lang/Object", name := "<init>", desc := "()V" } : MethodName)) ∈ pmWs := pmWs_1 (List.mem_of_getElem? (i := 188) rfl) rfl
theorem w_189 : (Jvm.Cond.classLink "HotEditions$Calls" (9 : Nat) "HotEditions$Frame") ∈ pmWs := pmWs_1 (List.mem_of_getElem? (i := 189) rfl) rfl
theorem w_190 : (Jvm.Cond.arrayOver (FieldType.object "HotEditions$Frame")) ∈ pmWs := pmWs_1 (List.mem_of_getElem? (i := 190) rfl) rfl
theorem w_191 : (Jvm.Cond.instantiable "HotEditions$Frame" (5 : Nat)) ∈ pmWs := pmWs_1 (List.mem_of_getElem? (i := 191) rfl) rfl
theorem w_192 : (Jvm.Cond.methodLinkNest "HotEditions$Calls" (24 : Nat) ({ cls := "HotEditions$Frame", name := "<init>", desc := "()V" } : MethodName) "HotEditions") ∈ pmWs := pmWs_1 (List.mem_of_getElem? (i := 192) rfl) rfl
theorem w_193 : (Jvm.Cond.instanceMethod ({ cls := "HotEditions$Frame", name := "<init>", desc := "()V" } : MethodName)) ∈ pmWs := pmWs_1 (List.mem_of_getElem? (i := 193) rfl) rfl
theorem w_194 : (Jvm.Cond.code ({ cls := "HotEditions$Frame", name := "<init>", desc := "()V" } : MethodName) prog_6_method_1_code (1 : Nat) (Option.none : Option FieldType)) ∈ pmWs := pmWs_1 (List.mem_of_getElem? (i := 194) rfl) rfl
theorem w_195 : (Jvm.Cond.methodLink "HotEditions$Frame" (3 : Nat) ({ cls := "java/lang/Object", name := "<init>", desc := "()V" } : MethodName)) ∈ pmWs := pmWs_1 (List.mem_of_getElem? (i := 195) rfl) rfl
theorem w_196 : (Jvm.Cond.classLink "HotEditions$Frame" (18 : Nat) "HotEditions$Code") ∈ pmWs := pmWs_1 (List.mem_of_getElem? (i := 196) rfl) rfl
theorem w_197 : (Jvm.Cond.methodLinkNest "HotEditions$Frame" (20 : Nat) ({ cls := "HotEditions$Code", name := "<init>", desc := "()V" } : MethodName) "HotEditions") ∈ pmWs := pmWs_1 (List.mem_of_getElem? (i := 197) rfl) rfl
theorem w_198 : (Jvm.Cond.fieldLink "HotEditions$Frame" (9 : Nat) "HotEditions$Frame" "ofClass" "I") ∈ pmWs := pmWs_1 (List.mem_of_getElem? (i := 198) rfl) rfl
theorem w_199 : (Jvm.Cond.fieldLinkNest "HotEditions" (183 : Nat) "HotEditions$Frame" "ofClass" "I" "HotEditions") ∈ pmWs := pmWs_1 (List.mem_of_getElem? (i := 199) rfl) rfl
theorem w_200 : (Jvm.Cond.fieldLink "HotEditions$Frame" (15 : Nat) "HotEditions$Frame" "edition" "I") ∈ pmWs := pmWs_1 (List.mem_of_getElem? (i := 200) rfl) rfl
theorem w_201 : (Jvm.Cond.fieldLinkNest "HotEditions" (178 : Nat) "HotEditions$Frame" "edition" "I" "HotEditions") ∈ pmWs := pmWs_1 (List.mem_of_getElem? (i := 201) rfl) rfl
theorem w_202 : (Jvm.Cond.fieldLink "HotEditions$Frame" (21 : Nat) "HotEditions$Frame" "body" "LHotEditions$Code;") ∈ pmWs := pmWs_1 (List.mem_of_getElem? (i := 202) rfl) rfl
theorem w_203 : (Jvm.Cond.fieldLinkNest "HotEditions$Calls" (59 : Nat) "HotEditions$Frame" "body" "LHotEditions$Code;" "HotEditions") ∈ pmWs := pmWs_1 (List.mem_of_getElem? (i := 203) rfl) rfl
theorem w_204 : (Jvm.Cond.fieldLink "HotEditions$Frame" (25 : Nat) "HotEditions$Frame" "place" "I") ∈ pmWs := pmWs_1 (List.mem_of_getElem? (i := 204) rfl) rfl
theorem w_205 : (Jvm.Cond.fieldLinkNest "HotEditions$Calls" (56 : Nat) "HotEditions$Frame" "place" "I" "HotEditions") ∈ pmWs := pmWs_1 (List.mem_of_getElem? (i := 205) rfl) rfl
theorem w_206 : (Jvm.Cond.fieldLink "HotEditions$Frame" (28 : Nat) "HotEditions$Frame" "sum" "I") ∈ pmWs := pmWs_1 (List.mem_of_getElem? (i := 206) rfl) rfl
theorem w_207 : (Jvm.Cond.fieldLinkNest "HotEditions$Calls" (65 : Nat) "HotEditions$Frame" "sum" "I" "HotEditions") ∈ pmWs := pmWs_1 (List.mem_of_getElem? (i := 207) rfl) rfl
theorem w_208 : (Jvm.Cond.lays "HotEditions$Frame" "HotEditions$Frame" "ofClass" "I") ∈ pmWs := pmWs_1 (List.mem_of_getElem? (i := 208) rfl) rfl
theorem w_210 : (Jvm.Cond.lays "HotEditions$Frame" "HotEditions$Frame" "edition" "I") ∈ pmWs := pmWs_1 (List.mem_of_getElem? (i := 210) rfl) rfl
theorem w_212 : (Jvm.Cond.laysFinal "HotEditions$Frame" "HotEditions$Frame" "body" "LHotEditions$Code;") ∈ pmWs := pmWs_1 (List.mem_of_getElem? (i := 212) rfl) rfl
theorem w_214 : (Jvm.Cond.lays "HotEditions$Frame" "HotEditions$Frame" "place" "I") ∈ pmWs := pmWs_1 (List.mem_of_getElem? (i := 214) rfl) rfl
theorem w_216 : (Jvm.Cond.lays "HotEditions$Frame" "HotEditions$Frame" "sum" "I") ∈ pmWs := pmWs_1 (List.mem_of_getElem? (i := 216) rfl) rfl
theorem w_219 : (Jvm.Cond.fieldLink "HotEditions$Calls" (11 : Nat) "HotEditions$Calls" "frames" "[LHotEditions$Frame;") ∈ pmWs := pmWs_1 (List.mem_of_getElem? (i := 219) rfl) rfl
theorem w_220 : (Jvm.Cond.fieldLinkNest "HotEditions" (198 : Nat) "HotEditions$Calls" "frames" "[LHotEditions$Frame;" "HotEditions") ∈ pmWs := pmWs_1 (List.mem_of_getElem? (i := 220) rfl) rfl
theorem w_221 : (Jvm.Cond.fieldLink "HotEditions$Calls" (17 : Nat) "HotEditions$Calls" "depth" "I") ∈ pmWs := pmWs_1 (List.mem_of_getElem? (i := 221) rfl) rfl
theorem w_222 : (Jvm.Cond.fieldLinkNest "HotEditions" (163 : Nat) "HotEditions$Calls" "depth" "I" "HotEditions") ∈ pmWs := pmWs_1 (List.mem_of_getElem? (i := 222) rfl) rfl
theorem w_223 : (Jvm.Cond.fieldLink "HotEditions$Calls" (21 : Nat) "HotEditions$Calls" "result" "I") ∈ pmWs := pmWs_1 (List.mem_of_getElem? (i := 223) rfl) rfl
theorem w_224 : (Jvm.Cond.fieldLinkNest "HotEditions" (186 : Nat) "HotEditions$Calls" "result" "I" "HotEditions") ∈ pmWs := pmWs_1 (List.mem_of_getElem? (i := 224) rfl) rfl
theorem w_225 : (Jvm.Cond.laysFinal "HotEditions$Calls" "HotEditions$Calls" "frames" "[LHotEditions$Frame;") ∈ pmWs := pmWs_1 (List.mem_of_getElem? (i := 225) rfl) rfl
theorem w_227 : (Jvm.Cond.lays "HotEditions$Calls" "HotEditions$Calls" "depth" "I") ∈ pmWs := pmWs_1 (List.mem_of_getElem? (i := 227) rfl) rfl
theorem w_229 : (Jvm.Cond.lays "HotEditions$Calls" "HotEditions$Calls" "result" "I") ∈ pmWs := pmWs_1 (List.mem_of_getElem? (i := 229) rfl) rfl
theorem w_232 : (Jvm.Cond.fieldLink "HotEditions" (10 : Nat) "HotEditions" "draft" "LHotEditions$Definition;") ∈ pmWs := pmWs_1 (List.mem_of_getElem? (i := 232) rfl) rfl
theorem w_233 : (Jvm.Cond.fieldLink "HotEditions" (16 : Nat) "HotEditions" "chosen" "I") ∈ pmWs := pmWs_1 (List.mem_of_getElem? (i := 233) rfl) rfl
theorem w_234 : (Jvm.Cond.fieldLink "HotEditions" (23 : Nat) "HotEditions" "shelf" "LHotEditions$Shelf;") ∈ pmWs := pmWs_1 (List.mem_of_getElem? (i := 234) rfl) rfl
theorem w_235 : (Jvm.Cond.fieldLink "HotEditions" (30 : Nat) "HotEditions" "chain" "LHotEditions$Chain;") ∈ pmWs := pmWs_1 (List.mem_of_getElem? (i := 235) rfl) rfl
theorem w_236 : (Jvm.Cond.fieldLink "HotEditions" (36 : Nat) "HotEditions" "batch" "[LHotEditions$Trial;") ∈ pmWs := pmWs_1 (List.mem_of_getElem? (i := 236) rfl) rfl
theorem w_237 : (Jvm.Cond.fieldLink "HotEditions" (40 : Nat) "HotEditions" "batchSize" "I") ∈ pmWs := pmWs_1 (List.mem_of_getElem? (i := 237) rfl) rfl
theorem w_238 : (Jvm.Cond.fieldLink "HotEditions" (44 : Nat) "HotEditions" "single" "LHotEditions$Trial;") ∈ pmWs := pmWs_1 (List.mem_of_getElem? (i := 238) rfl) rfl
theorem w_239 : (Jvm.Cond.fieldLink "HotEditions" (50 : Nat) "HotEditions" "threads" "[LHotEditions$Calls;") ∈ pmWs := pmWs_1 (List.mem_of_getElem? (i := 239) rfl) rfl
theorem w_240 : (Jvm.Cond.laysFinal "HotEditions" "HotEditions" "draft" "LHotEditions$Definition;") ∈ pmWs := pmWs_2 (List.mem_of_getElem? (i := 0) rfl) rfl
theorem w_242 : (Jvm.Cond.lays "HotEditions" "HotEditions" "chosen" "I") ∈ pmWs := pmWs_2 (List.mem_of_getElem? (i := 2) rfl) rfl
theorem w_244 : (Jvm.Cond.laysFinal "HotEditions" "HotEditions" "shelf" "LHotEditions$Shelf;") ∈ pmWs := pmWs_2 (List.mem_of_getElem? (i := 4) rfl) rfl
theorem w_246 : (Jvm.Cond.laysFinal "HotEditions" "HotEditions" "chain" "LHotEditions$Chain;") ∈ pmWs := pmWs_2 (List.mem_of_getElem? (i := 6) rfl) rfl
theorem w_248 : (Jvm.Cond.laysFinal "HotEditions" "HotEditions" "batch" "[LHotEditions$Trial;") ∈ pmWs := pmWs_2 (List.mem_of_getElem? (i := 8) rfl) rfl
theorem w_250 : (Jvm.Cond.lays "HotEditions" "HotEditions" "batchSize" "I") ∈ pmWs := pmWs_2 (List.mem_of_getElem? (i := 10) rfl) rfl
theorem w_252 : (Jvm.Cond.laysFinal "HotEditions" "HotEditions" "single" "LHotEditions$Trial;") ∈ pmWs := pmWs_2 (List.mem_of_getElem? (i := 12) rfl) rfl
theorem w_254 : (Jvm.Cond.laysFinal "HotEditions" "HotEditions" "threads" "[LHotEditions$Calls;") ∈ pmWs := pmWs_2 (List.mem_of_getElem? (i := 14) rfl) rfl
theorem w_257 : (Jvm.Cond.methodLink "HotEditionsLaw" (13 : Nat) ({ cls := "HotEditions", name := "blank", desc := "()V" } : MethodName)) ∈ pmWs := pmWs_2 (List.mem_of_getElem? (i := 17) rfl) rfl
theorem w_258 : (Jvm.Cond.instanceMethod ({ cls := "HotEditions", name := "blank", desc := "()V" } : MethodName)) ∈ pmWs := pmWs_2 (List.mem_of_getElem? (i := 18) rfl) rfl
theorem w_259 : (Jvm.Cond.selects "HotEditions" ({ cls := "HotEditions", name := "blank", desc := "()V" } : MethodName) ({ cls := "HotEditions", name := "blank", desc := "()V" } : MethodName)) ∈ pmWs := pmWs_2 (List.mem_of_getElem? (i := 19) rfl) rfl
theorem w_260 : (Jvm.Cond.code ({ cls := "HotEditions", name := "blank", desc := "()V" } : MethodName) prog_1_method_2_code (1 : Nat) (Option.none : Option FieldType)) ∈ pmWs := pmWs_2 (List.mem_of_getElem? (i := 20) rfl) rfl
theorem w_261 : (Jvm.Cond.methodLink "HotEditions" (55 : Nat) ({ cls := "HotEditions$Definition", name := "clear", desc := "()V" } : MethodName)) ∈ pmWs := pmWs_2 (List.mem_of_getElem? (i := 21) rfl) rfl
theorem w_262 : (Jvm.Cond.methodLink "HotEditionsLaw" (17 : Nat) ({ cls := "HotEditions", name := "copy", desc := "(I)Z" } : MethodName)) ∈ pmWs := pmWs_2 (List.mem_of_getElem? (i := 22) rfl) rfl
theorem w_263 : (Jvm.Cond.instanceMethod ({ cls := "HotEditions", name := "copy", desc := "(I)Z" } : MethodName)) ∈ pmWs := pmWs_2 (List.mem_of_getElem? (i := 23) rfl) rfl
theorem w_264 : (Jvm.Cond.selects "HotEditions" ({ cls := "HotEditions", name := "copy", desc := "(I)Z" } : MethodName) ({ cls := "HotEditions", name := "copy", desc := "(I)Z" } : MethodName)) ∈ pmWs := pmWs_2 (List.mem_of_getElem? (i := 24) rfl) rfl
theorem w_265 : (Jvm.Cond.code ({ cls := "HotEditions", name := "copy", desc := "(I)Z" } : MethodName) prog_1_method_3_code (3 : Nat) (Option.some FieldType.boolean)) ∈ pmWs := pmWs_2 (List.mem_of_getElem? (i := 25) rfl) rfl
theorem w_266 : (Jvm.Cond.methodLink "HotEditions" (58 : Nat) ({ cls := "HotEditions$Shelf", name := "find", desc := "(I)LHotEditions$LoadedClass;" } : MethodName)) ∈ pmWs := pmWs_2 (List.mem_of_getElem? (i := 26) rfl) rfl
theorem w_267 : (Jvm.Cond.instanceMethod ({ cls := "HotEditions$Shelf", name := "find", desc := "(I)LHotEditions$LoadedClass;" } : MethodName)) ∈ pmWs := pmWs_2 (List.mem_of_getElem? (i := 27) rfl) rfl
theorem w_268 : (Jvm.Cond.selects "HotEditions$Shelf" ({ cls := "HotEditions$Shelf", name := "find", desc := "(I)LHotEditions$LoadedClass;" } : MethodName) ({ cls := "HotEditions$Shelf", name := "find", desc := "(I)LHotEditions$LoadedClass;" } : MethodName)) ∈ pmWs := pmWs_2 (List.mem_of_getElem? (i := 28) rfl) rfl
theorem w_269 : (Jvm.Cond.code ({ cls := "HotEditions$Shelf", name := "find", desc := "(I)LHotEditions$LoadedClass;" } : MethodName) prog_10_method_2_code (2 : Nat) (Option.some (FieldType.object "HotEditions$LoadedClass"))) ∈ pmWs := pmWs_2 (List.mem_of_getElem? (i := 29) rfl) rfl
theorem w_270 : (Jvm.Cond.methodLink "HotEditions" (67 : Nat) ({ cls := "HotEditions$Definition", name := "become", desc := "(LHotEditions$Definition;)V" } : MethodName)) ∈ pmWs := pmWs_2 (List.mem_of_getElem? (i := 30) rfl) rfl
theorem w_271 : (Jvm.Cond.instanceMethod ({ cls := "HotEditions$Definition", name := "become", desc := "(LHotEditions$Definition;)V" } : MethodName)) ∈ pmWs := pmWs_2 (List.mem_of_getElem? (i := 31) rfl) rfl
theorem w_272 : (Jvm.Cond.selects "HotEditions$Definition" ({ cls := "HotEditions$Definition", name := "become", desc := "(LHotEditions$Definition;)V" } : MethodName) ({ cls := "HotEditions$Definition", name := "become", desc := "(LHotEditions$Definition;)V" } : MethodName)) ∈ pmWs := pmWs_2 (List.mem_of_getElem? (i := 32) rfl) rfl
theorem w_273 : (Jvm.Cond.code ({ cls := "HotEditions$Definition", name := "become", desc := "(LHotEditions$Definition;)V" } : MethodName) prog_5_method_3_code (3 : Nat) (Option.none : Option FieldType)) ∈ pmWs := pmWs_2 (List.mem_of_getElem? (i := 33) rfl) rfl
theorem w_274 : (Jvm.Cond.methodLink "HotEditions$Definition" (41 : Nat) ({ cls := "java/lang/System", name := "arraycopy", desc := "(Ljava/lang/Object;ILjava/lang/Object;II)V" } : MethodName)) ∈ pmWs := pmWs_2 (List.mem_of_getElem? (i := 34) rfl) rfl
theorem w_275 : (Jvm.Cond.static ({ cls := "java/lang/System", name := "arraycopy", desc := "(Ljava/lang/Object;ILjava/lang/Object;II)V" } : MethodName)) ∈ pmWs := pmWs_2 (List.mem_of_getElem? (i := 35) rfl) rfl
theorem w_276 : (Jvm.Cond.native ({ cls := "java/lang/System", name := "arraycopy", desc := "(Ljava/lang/Object;ILjava/lang/Object;II)V" } : MethodName)) ∈ pmWs := pmWs_2 (List.mem_of_getElem? (i := 36) rfl) rfl
theorem w_277 : (Jvm.Cond.methodLink "HotEditions$Definition" (47 : Nat) ({ cls := "HotEditions$Method", name := "become", desc := "(LHotEditions$Method;)V" } : MethodName)) ∈ pmWs := pmWs_2 (List.mem_of_getElem? (i := 37) rfl) rfl
theorem w_278 : (Jvm.Cond.instanceMethod ({ cls := "HotEditions$Method", name := "become", desc := "(LHotEditions$Method;)V" } : MethodName)) ∈ pmWs := pmWs_2 (List.mem_of_getElem? (i := 38) rfl) rfl
theorem w_279 : (Jvm.Cond.selects "HotEditions$Method" ({ cls := "HotEditions$Method", name := "become", desc := "(LHotEditions$Method;)V" } : MethodName) ({ cls := "HotEditions$Method", name := "become", desc := "(LHotEditions$Method;)V" } : MethodName)) ∈ pmWs := pmWs_2 (List.mem_of_getElem? (i := 39) rfl) rfl
theorem w_280 : (Jvm.Cond.code ({ cls := "HotEditions$Method", name := "become", desc := "(LHotEditions$Method;)V" } : MethodName) prog_8_method_2_code (2 : Nat) (Option.none : Option FieldType)) ∈ pmWs := pmWs_2 (List.mem_of_getElem? (i := 40) rfl) rfl
theorem w_281 : (Jvm.Cond.methodLink "HotEditions$Method" (23 : Nat) ({ cls := "HotEditions$Code", name := "become", desc := "(LHotEditions$Code;)V" } : MethodName)) ∈ pmWs := pmWs_2 (List.mem_of_getElem? (i := 41) rfl) rfl
theorem w_282 : (Jvm.Cond.instanceMethod ({ cls := "HotEditions$Code", name := "become", desc := "(LHotEditions$Code;)V" } : MethodName)) ∈ pmWs := pmWs_2 (List.mem_of_getElem? (i := 42) rfl) rfl
theorem w_283 : (Jvm.Cond.selects "HotEditions$Code" ({ cls := "HotEditions$Code", name := "become", desc := "(LHotEditions$Code;)V" } : MethodName) ({ cls := "HotEditions$Code", name := "become", desc := "(LHotEditions$Code;)V" } : MethodName)) ∈ pmWs := pmWs_2 (List.mem_of_getElem? (i := 43) rfl) rfl
theorem w_284 : (Jvm.Cond.code ({ cls := "HotEditions$Code", name := "become", desc := "(LHotEditions$Code;)V" } : MethodName) prog_4_method_3_code (2 : Nat) (Option.none : Option FieldType)) ∈ pmWs := pmWs_2 (List.mem_of_getElem? (i := 44) rfl) rfl
theorem w_285 : (Jvm.Cond.methodLink "HotEditions$Code" (19 : Nat) ({ cls := "java/lang/System", name := "arraycopy", desc := "(Ljava/lang/Object;ILjava/lang/Object;II)V" } : MethodName)) ∈ pmWs := pmWs_2 (List.mem_of_getElem? (i := 45) rfl) rfl
theorem w_286 : (Jvm.Cond.methodLink "HotEditionsLaw" (22 : Nat) ({ cls := "HotEditions", name := "set", desc := "(II)Z" } : MethodName)) ∈ pmWs := pmWs_2 (List.mem_of_getElem? (i := 46) rfl) rfl
theorem w_287 : (Jvm.Cond.instanceMethod ({ cls := "HotEditions", name := "set", desc := "(II)Z" } : MethodName)) ∈ pmWs := pmWs_2 (List.mem_of_getElem? (i := 47) rfl) rfl
theorem w_288 : (Jvm.Cond.selects "HotEditions" ({ cls := "HotEditions", name := "set", desc := "(II)Z" } : MethodName) ({ cls := "HotEditions", name := "set", desc := "(II)Z" } : MethodName)) ∈ pmWs := pmWs_2 (List.mem_of_getElem? (i := 48) rfl) rfl
theorem w_289 : (Jvm.Cond.code ({ cls := "HotEditions", name := "set", desc := "(II)Z" } : MethodName) prog_1_method_4_code (3 : Nat) (Option.some FieldType.boolean)) ∈ pmWs := pmWs_2 (List.mem_of_getElem? (i := 49) rfl) rfl
theorem w_290 : (Jvm.Cond.methodLink "HotEditionsLaw" (27 : Nat) ({ cls := "HotEditions", name := "implement", desc := "(I)Z" } : MethodName)) ∈ pmWs := pmWs_2 (List.mem_of_getElem? (i := 50) rfl) rfl
theorem w_291 : (Jvm.Cond.instanceMethod ({ cls := "HotEditions", name := "implement", desc := "(I)Z" } : MethodName)) ∈ pmWs := pmWs_2 (List.mem_of_getElem? (i := 51) rfl) rfl
theorem w_292 : (Jvm.Cond.selects "HotEditions" ({ cls := "HotEditions", name := "implement", desc := "(I)Z" } : MethodName) ({ cls := "HotEditions", name := "implement", desc := "(I)Z" } : MethodName)) ∈ pmWs := pmWs_2 (List.mem_of_getElem? (i := 52) rfl) rfl
theorem w_293 : (Jvm.Cond.code ({ cls := "HotEditions", name := "implement", desc := "(I)Z" } : MethodName) prog_1_method_5_code (2 : Nat) (Option.some FieldType.boolean)) ∈ pmWs := pmWs_2 (List.mem_of_getElem? (i := 53) rfl) rfl
theorem w_294 : (Jvm.Cond.methodLink "HotEditions" (75 : Nat) ({ cls := "HotEditions$Definition", name := "addInterface", desc := "(I)Z" } : MethodName)) ∈ pmWs := pmWs_2 (List.mem_of_getElem? (i := 54) rfl) rfl
theorem w_295 : (Jvm.Cond.instanceMethod ({ cls := "HotEditions$Definition", name := "addInterface", desc := "(I)Z" } : MethodName)) ∈ pmWs := pmWs_2 (List.mem_of_getElem? (i := 55) rfl) rfl
theorem w_296 : (Jvm.Cond.selects "HotEditions$Definition" ({ cls := "HotEditions$Definition", name := "addInterface", desc := "(I)Z" } : MethodName) ({ cls := "HotEditions$Definition", name := "addInterface", desc := "(I)Z" } : MethodName)) ∈ pmWs := pmWs_2 (List.mem_of_getElem? (i := 56) rfl) rfl
theorem w_297 : (Jvm.Cond.code ({ cls := "HotEditions$Definition", name := "addInterface", desc := "(I)Z" } : MethodName) prog_5_method_4_code (2 : Nat) (Option.some FieldType.boolean)) ∈ pmWs := pmWs_2 (List.mem_of_getElem? (i := 57) rfl) rfl
theorem w_298 : (Jvm.Cond.methodLink "HotEditionsLaw" (31 : Nat) ({ cls := "HotEditions", name := "field", desc := "(III)Z" } : MethodName)) ∈ pmWs := pmWs_2 (List.mem_of_getElem? (i := 58) rfl) rfl
theorem w_299 : (Jvm.Cond.instanceMethod ({ cls := "HotEditions", name := "field", desc := "(III)Z" } : MethodName)) ∈ pmWs := pmWs_2 (List.mem_of_getElem? (i := 59) rfl) rfl
theorem w_300 : (Jvm.Cond.selects "HotEditions" ({ cls := "HotEditions", name := "field", desc := "(III)Z" } : MethodName) ({ cls := "HotEditions", name := "field", desc := "(III)Z" } : MethodName)) ∈ pmWs := pmWs_2 (List.mem_of_getElem? (i := 60) rfl) rfl
theorem w_301 : (Jvm.Cond.code ({ cls := "HotEditions", name := "field", desc := "(III)Z" } : MethodName) prog_1_method_6_code (4 : Nat) (Option.some FieldType.boolean)) ∈ pmWs := pmWs_2 (List.mem_of_getElem? (i := 61) rfl) rfl
theorem w_302 : (Jvm.Cond.methodLink "HotEditions" (79 : Nat) ({ cls := "HotEditions$Definition", name := "addField", desc := "(III)Z" } : MethodName)) ∈ pmWs := pmWs_2 (List.mem_of_getElem? (i := 62) rfl) rfl
theorem w_303 : (Jvm.Cond.instanceMethod ({ cls := "HotEditions$Definition", name := "addField", desc := "(III)Z" } : MethodName)) ∈ pmWs := pmWs_2 (List.mem_of_getElem? (i := 63) rfl) rfl
theorem w_304 : (Jvm.Cond.selects "HotEditions$Definition" ({ cls := "HotEditions$Definition", name := "addField", desc := "(III)Z" } : MethodName) ({ cls := "HotEditions$Definition", name := "addField", desc := "(III)Z" } : MethodName)) ∈ pmWs := pmWs_2 (List.mem_of_getElem? (i := 64) rfl) rfl
theorem w_305 : (Jvm.Cond.code ({ cls := "HotEditions$Definition", name := "addField", desc := "(III)Z" } : MethodName) prog_5_method_5_code (4 : Nat) (Option.some FieldType.boolean)) ∈ pmWs := pmWs_2 (List.mem_of_getElem? (i := 65) rfl) rfl
theorem w_306 : (Jvm.Cond.methodLink "HotEditionsLaw" (36 : Nat) ({ cls := "HotEditions", name := "method", desc := "(II)Z" } : MethodName)) ∈ pmWs := pmWs_2 (List.mem_of_getElem? (i := 66) rfl) rfl
theorem w_307 : (Jvm.Cond.instanceMethod ({ cls := "HotEditions", name := "method", desc := "(II)Z" } : MethodName)) ∈ pmWs := pmWs_2 (List.mem_of_getElem? (i := 67) rfl) rfl
theorem w_308 : (Jvm.Cond.selects "HotEditions" ({ cls := "HotEditions", name := "method", desc := "(II)Z" } : MethodName) ({ cls := "HotEditions", name := "method", desc := "(II)Z" } : MethodName)) ∈ pmWs := pmWs_2 (List.mem_of_getElem? (i := 68) rfl) rfl
theorem w_309 : (Jvm.Cond.code ({ cls := "HotEditions", name := "method", desc := "(II)Z" } : MethodName) prog_1_method_7_code (3 : Nat) (Option.some FieldType.boolean)) ∈ pmWs := pmWs_2 (List.mem_of_getElem? (i := 69) rfl) rfl
theorem w_310 : (Jvm.Cond.methodLink "HotEditions" (83 : Nat) ({ cls := "HotEditions$Definition", name := "addMethod", desc := "(II)Z" } : MethodName)) ∈ pmWs := pmWs_2 (List.mem_of_getElem? (i := 70) rfl) rfl
theorem w_311 : (Jvm.Cond.instanceMethod ({ cls := "HotEditions$Definition", name := "addMethod", desc := "(II)Z" } : MethodName)) ∈ pmWs := pmWs_2 (List.mem_of_getElem? (i := 71) rfl) rfl
theorem w_312 : (Jvm.Cond.selects "HotEditions$Definition" ({ cls := "HotEditions$Definition", name := "addMethod", desc := "(II)Z" } : MethodName) ({ cls := "HotEditions$Definition", name := "addMethod", desc := "(II)Z" } : MethodName)) ∈ pmWs := pmWs_2 (List.mem_of_getElem? (i := 72) rfl) rfl
theorem w_313 : (Jvm.Cond.code ({ cls := "HotEditions$Definition", name := "addMethod", desc := "(II)Z" } : MethodName) prog_5_method_6_code (4 : Nat) (Option.some FieldType.boolean)) ∈ pmWs := pmWs_2 (List.mem_of_getElem? (i := 73) rfl) rfl
theorem w_314 : (Jvm.Cond.methodLink "HotEditions$Definition" (61 : Nat) ({ cls := "HotEditions$Code", name := "clear", desc := "()V" } : MethodName)) ∈ pmWs := pmWs_2 (List.mem_of_getElem? (i := 74) rfl) rfl
theorem w_315 : (Jvm.Cond.instanceMethod ({ cls := "HotEditions$Code", name := "clear", desc := "()V" } : MethodName)) ∈ pmWs := pmWs_2 (List.mem_of_getElem? (i := 75) rfl) rfl
theorem w_316 : (Jvm.Cond.selects "HotEditions$Code" ({ cls := "HotEditions$Code", name := "clear", desc := "()V" } : MethodName) ({ cls := "HotEditions$Code", name := "clear", desc := "()V" } : MethodName)) ∈ pmWs := pmWs_2 (List.mem_of_getElem? (i := 76) rfl) rfl
theorem w_317 : (Jvm.Cond.code ({ cls := "HotEditions$Code", name := "clear", desc := "()V" } : MethodName) prog_4_method_2_code (1 : Nat) (Option.none : Option FieldType)) ∈ pmWs := pmWs_2 (List.mem_of_getElem? (i := 77) rfl) rfl
theorem w_318 : (Jvm.Cond.methodLink "HotEditionsLaw" (40 : Nat) ({ cls := "HotEditions", name := "choose", desc := "(I)Z" } : MethodName)) ∈ pmWs := pmWs_2 (List.mem_of_getElem? (i := 78) rfl) rfl
theorem w_319 : (Jvm.Cond.instanceMethod ({ cls := "HotEditions", name := "choose", desc := "(I)Z" } : MethodName)) ∈ pmWs := pmWs_2 (List.mem_of_getElem? (i := 79) rfl) rfl
theorem w_320 : (Jvm.Cond.selects "HotEditions" ({ cls := "HotEditions", name := "choose", desc := "(I)Z" } : MethodName) ({ cls := "HotEditions", name := "choose", desc := "(I)Z" } : MethodName)) ∈ pmWs := pmWs_2 (List.mem_of_getElem? (i := 80) rfl) rfl
theorem w_321 : (Jvm.Cond.code ({ cls := "HotEditions", name := "choose", desc := "(I)Z" } : MethodName) prog_1_method_8_code (2 : Nat) (Option.some FieldType.boolean)) ∈ pmWs := pmWs_2 (List.mem_of_getElem? (i := 81) rfl) rfl
theorem w_322 : (Jvm.Cond.methodLink "HotEditions" (100 : Nat) ({ cls := "HotEditions$Code", name := "clear", desc := "()V" } : MethodName)) ∈ pmWs := pmWs_2 (List.mem_of_getElem? (i := 82) rfl) rfl
theorem w_323 : (Jvm.Cond.methodLink "HotEditionsLaw" (44 : Nat) ({ cls := "HotEditions", name := "code", desc := "(III)Z" } : MethodName)) ∈ pmWs := pmWs_2 (List.mem_of_getElem? (i := 83) rfl) rfl
theorem w_324 : (Jvm.Cond.instanceMethod ({ cls := "HotEditions", name := "code", desc := "(III)Z" } : MethodName)) ∈ pmWs := pmWs_2 (List.mem_of_getElem? (i := 84) rfl) rfl
theorem w_325 : (Jvm.Cond.selects "HotEditions" ({ cls := "HotEditions", name := "code", desc := "(III)Z" } : MethodName) ({ cls := "HotEditions", name := "code", desc := "(III)Z" } : MethodName)) ∈ pmWs := pmWs_2 (List.mem_of_getElem? (i := 85) rfl) rfl
theorem w_326 : (Jvm.Cond.code ({ cls := "HotEditions", name := "code", desc := "(III)Z" } : MethodName) prog_1_method_9_code (4 : Nat) (Option.some FieldType.boolean)) ∈ pmWs := pmWs_2 (List.mem_of_getElem? (i := 86) rfl) rfl
theorem w_327 : (Jvm.Cond.methodLink "HotEditions" (103 : Nat) ({ cls := "HotEditions$Code", name := "add", desc := "(III)Z" } : MethodName)) ∈ pmWs := pmWs_2 (List.mem_of_getElem? (i := 87) rfl) rfl
theorem w_328 : (Jvm.Cond.instanceMethod ({ cls := "HotEditions$Code", name := "add", desc := "(III)Z" } : MethodName)) ∈ pmWs := pmWs_2 (List.mem_of_getElem? (i := 88) rfl) rfl
theorem w_329 : (Jvm.Cond.selects "HotEditions$Code" ({ cls := "HotEditions$Code", name := "add", desc := "(III)Z" } : MethodName) ({ cls := "HotEditions$Code", name := "add", desc := "(III)Z" } : MethodName)) ∈ pmWs := pmWs_2 (List.mem_of_getElem? (i := 89) rfl) rfl
theorem w_330 : (Jvm.Cond.code ({ cls := "HotEditions$Code", name := "add", desc := "(III)Z" } : MethodName) prog_4_method_4_code (4 : Nat) (Option.some FieldType.boolean)) ∈ pmWs := pmWs_2 (List.mem_of_getElem? (i := 90) rfl) rfl
theorem w_331 : (Jvm.Cond.methodLink "HotEditionsLaw" (48 : Nat) ({ cls := "HotEditions", name := "load", desc := "()I" } : MethodName)) ∈ pmWs := pmWs_2 (List.mem_of_getElem? (i := 91) rfl) rfl
theorem w_332 : (Jvm.Cond.instanceMethod ({ cls := "HotEditions", name := "load", desc := "()I" } : MethodName)) ∈ pmWs := pmWs_2 (List.mem_of_getElem? (i := 92) rfl) rfl
theorem w_333 : (Jvm.Cond.selects "HotEditions" ({ cls := "HotEditions", name := "load", desc := "()I" } : MethodName) ({ cls := "HotEditions", name := "load", desc := "()I" } : MethodName)) ∈ pmWs := pmWs_2 (List.mem_of_getElem? (i := 93) rfl) rfl
theorem w_334 : (Jvm.Cond.code ({ cls := "HotEditions", name := "load", desc := "()I" } : MethodName) prog_1_method_10_code (3 : Nat) (Option.some FieldType.int)) ∈ pmWs := pmWs_2 (List.mem_of_getElem? (i := 94) rfl) rfl
theorem w_335 : (Jvm.Cond.methodLink "HotEditions" (106 : Nat) ({ cls := "HotEditions$Trial", name := "take", desc := "(LHotEditions$Definition;I)V" } : MethodName)) ∈ pmWs := pmWs_2 (List.mem_of_getElem? (i := 95) rfl) rfl
theorem w_336 : (Jvm.Cond.instanceMethod ({ cls := "HotEditions$Trial", name := "take", desc := "(LHotEditions$Definition;I)V" } : MethodName)) ∈ pmWs := pmWs_2 (List.mem_of_getElem? (i := 96) rfl) rfl
theorem w_337 : (Jvm.Cond.selects "HotEditions$Trial" ({ cls := "HotEditions$Trial", name := "take", desc := "(LHotEditions$Definition;I)V" } : MethodName) ({ cls := "HotEditions$Trial", name := "take", desc := "(LHotEditions$Definition;I)V" } : MethodName)) ∈ pmWs := pmWs_2 (List.mem_of_getElem? (i := 97) rfl) rfl
theorem w_338 : (Jvm.Cond.code ({ cls := "HotEditions$Trial", name := "take", desc := "(LHotEditions$Definition;I)V" } : MethodName) prog_12_method_2_code (3 : Nat) (Option.none : Option FieldType)) ∈ pmWs := pmWs_2 (List.mem_of_getElem? (i := 98) rfl) rfl
theorem w_339 : (Jvm.Cond.methodLink "HotEditions$Trial" (25 : Nat) ({ cls := "HotEditions$Definition", name := "become", desc := "(LHotEditions$Definition;)V" } : MethodName)) ∈ pmWs := pmWs_2 (List.mem_of_getElem? (i := 99) rfl) rfl
theorem w_340 : (Jvm.Cond.methodLink "HotEditions" (110 : Nat) ({ cls := "HotEditions$Chain", name := "treat", desc := "(LHotEditions$Trial;)V" } : MethodName)) ∈ pmWs := pmWs_2 (List.mem_of_getElem? (i := 100) rfl) rfl
theorem w_341 : (Jvm.Cond.instanceMethod ({ cls := "HotEditions$Chain", name := "treat", desc := "(LHotEditions$Trial;)V" } : MethodName)) ∈ pmWs := pmWs_2 (List.mem_of_getElem? (i := 101) rfl) rfl
theorem w_342 : (Jvm.Cond.selects "HotEditions$Chain" ({ cls := "HotEditions$Chain", name := "treat", desc := "(LHotEditions$Trial;)V" } : MethodName) ({ cls := "HotEditions$Chain", name := "treat", desc := "(LHotEditions$Trial;)V" } : MethodName)) ∈ pmWs := pmWs_2 (List.mem_of_getElem? (i := 102) rfl) rfl
theorem w_343 : (Jvm.Cond.code ({ cls := "HotEditions$Chain", name := "treat", desc := "(LHotEditions$Trial;)V" } : MethodName) prog_3_method_4_code (2 : Nat) (Option.none : Option FieldType)) ∈ pmWs := pmWs_2 (List.mem_of_getElem? (i := 103) rfl) rfl
theorem w_344 : (Jvm.Cond.methodLink "HotEditions$Chain" (44 : Nat) ({ cls := "HotEditions$Chain", name := "change", desc := "(LHotEditions$Definition;IZ)V" } : MethodName)) ∈ pmWs := pmWs_2 (List.mem_of_getElem? (i := 104) rfl) rfl
theorem w_345 : (Jvm.Cond.instanceMethod ({ cls := "HotEditions$Chain", name := "change", desc := "(LHotEditions$Definition;IZ)V" } : MethodName)) ∈ pmWs := pmWs_2 (List.mem_of_getElem? (i := 105) rfl) rfl
theorem w_346 : (Jvm.Cond.selects "HotEditions$Chain" ({ cls := "HotEditions$Chain", name := "change", desc := "(LHotEditions$Definition;IZ)V" } : MethodName) ({ cls := "HotEditions$Chain", name := "change", desc := "(LHotEditions$Definition;IZ)V" } : MethodName)) ∈ pmWs := pmWs_2 (List.mem_of_getElem? (i := 106) rfl) rfl
theorem w_347 : (Jvm.Cond.code ({ cls := "HotEditions$Chain", name := "change", desc := "(LHotEditions$Definition;IZ)V" } : MethodName) prog_3_method_5_code (6 : Nat) (Option.none : Option FieldType)) ∈ pmWs := pmWs_2 (List.mem_of_getElem? (i := 107) rfl) rfl
theorem w_348 : (Jvm.Cond.methodLink "HotEditions$Chain" (57 : Nat) ({ cls := "HotEditions$Transformer", name := "isFor", desc := "(I)Z" } : MethodName)) ∈ pmWs := pmWs_2 (List.mem_of_getElem? (i := 108) rfl) rfl
theorem w_349 : (Jvm.Cond.instanceMethod ({ cls := "HotEditions$Transformer", name := "isFor", desc := "(I)Z" } : MethodName)) ∈ pmWs := pmWs_2 (List.mem_of_getElem? (i := 109) rfl) rfl
theorem w_350 : (Jvm.Cond.selects "HotEditions$Transformer" ({ cls := "HotEditions$Transformer", name := "isFor", desc := "(I)Z" } : MethodName) ({ cls := "HotEditions$Transformer", name := "isFor", desc := "(I)Z" } : MethodName)) ∈ pmWs := pmWs_2 (List.mem_of_getElem? (i := 110) rfl) rfl
theorem w_351 : (Jvm.Cond.code ({ cls := "HotEditions$Transformer", name := "isFor", desc := "(I)Z" } : MethodName) prog_11_method_2_code (2 : Nat) (Option.some FieldType.boolean)) ∈ pmWs := pmWs_2 (List.mem_of_getElem? (i := 111) rfl) rfl
theorem w_352 : (Jvm.Cond.methodLink "HotEditions$Chain" (61 : Nat) ({ cls := "HotEditions$Transformer", name := "change", desc := "(LHotEditions$Definition;)V" } : MethodName)) ∈ pmWs := pmWs_2 (List.mem_of_getElem? (i := 112) rfl) rfl
theorem w_353 : (Jvm.Cond.instanceMethod ({ cls := "HotEditions$Transformer", name := "change", desc := "(LHotEditions$Definition;)V" } : MethodName)) ∈ pmWs := pmWs_2 (List.mem_of_getElem? (i := 113) rfl) rfl
theorem w_354 : (Jvm.Cond.selects "HotEditions$Transformer" ({ cls := "HotEditions$Transformer", name := "change", desc := "(LHotEditions$Definition;)V" } : MethodName) ({ cls := "HotEditions$Transformer", name := "change", desc := "(LHotEditions$Definition;)V" } : MethodName)) ∈ pmWs := pmWs_2 (List.mem_of_getElem? (i := 114) rfl) rfl
theorem w_355 : (Jvm.Cond.code ({ cls := "HotEditions$Transformer", name := "change", desc := "(LHotEditions$Definition;)V" } : MethodName) prog_11_method_3_code (3 : Nat) (Option.none : Option FieldType)) ∈ pmWs := pmWs_2 (List.mem_of_getElem? (i := 115) rfl) rfl
theorem w_356 : (Jvm.Cond.methodLink "HotEditions$Transformer" (43 : Nat) ({ cls := "HotEditions$Code", name := "raiseAdditions", desc := "(I)V" } : MethodName)) ∈ pmWs := pmWs_2 (List.mem_of_getElem? (i := 116) rfl) rfl
theorem w_357 : (Jvm.Cond.instanceMethod ({ cls := "HotEditions$Code", name := "raiseAdditions", desc := "(I)V" } : MethodName)) ∈ pmWs := pmWs_2 (List.mem_of_getElem? (i := 117) rfl) rfl
theorem w_358 : (Jvm.Cond.selects "HotEditions$Code" ({ cls := "HotEditions$Code", name := "raiseAdditions", desc := "(I)V" } : MethodName) ({ cls := "HotEditions$Code", name := "raiseAdditions", desc := "(I)V" } : MethodName)) ∈ pmWs := pmWs_2 (List.mem_of_getElem? (i := 118) rfl) rfl
theorem w_359 : (Jvm.Cond.code ({ cls := "HotEditions$Code", name := "raiseAdditions", desc := "(I)V" } : MethodName) prog_4_method_8_code (3 : Nat) (Option.none : Option FieldType)) ∈ pmWs := pmWs_2 (List.mem_of_getElem? (i := 119) rfl) rfl
theorem w_360 : (Jvm.Cond.methodLink "HotEditions$Code" (25 : Nat) ({ cls := "HotEditions$Code", name := "opAt", desc := "(I)I" } : MethodName)) ∈ pmWs := pmWs_2 (List.mem_of_getElem? (i := 120) rfl) rfl
theorem w_361 : (Jvm.Cond.instanceMethod ({ cls := "HotEditions$Code", name := "opAt", desc := "(I)I" } : MethodName)) ∈ pmWs := pmWs_2 (List.mem_of_getElem? (i := 121) rfl) rfl
theorem w_362 : (Jvm.Cond.selects "HotEditions$Code" ({ cls := "HotEditions$Code", name := "opAt", desc := "(I)I" } : MethodName) ({ cls := "HotEditions$Code", name := "opAt", desc := "(I)I" } : MethodName)) ∈ pmWs := pmWs_2 (List.mem_of_getElem? (i := 122) rfl) rfl
theorem w_363 : (Jvm.Cond.code ({ cls := "HotEditions$Code", name := "opAt", desc := "(I)I" } : MethodName) prog_4_method_5_code (2 : Nat) (Option.some FieldType.int)) ∈ pmWs := pmWs_2 (List.mem_of_getElem? (i := 123) rfl) rfl
theorem w_364 : (Jvm.Cond.methodLink "HotEditions$Transformer" (53 : Nat) ({ cls := "HotEditions$Definition", name := "findMethod", desc := "(I)LHotEditions$Method;" } : MethodName)) ∈ pmWs := pmWs_2 (List.mem_of_getElem? (i := 124) rfl) rfl
theorem w_365 : (Jvm.Cond.instanceMethod ({ cls := "HotEditions$Definition", name := "findMethod", desc := "(I)LHotEditions$Method;" } : MethodName)) ∈ pmWs := pmWs_2 (List.mem_of_getElem? (i := 125) rfl) rfl
theorem w_366 : (Jvm.Cond.selects "HotEditions$Definition" ({ cls := "HotEditions$Definition", name := "findMethod", desc := "(I)LHotEditions$Method;" } : MethodName) ({ cls := "HotEditions$Definition", name := "findMethod", desc := "(I)LHotEditions$Method;" } : MethodName)) ∈ pmWs := pmWs_2 (List.mem_of_getElem? (i := 126) rfl) rfl
theorem w_367 : (Jvm.Cond.code ({ cls := "HotEditions$Definition", name := "findMethod", desc := "(I)LHotEditions$Method;" } : MethodName) prog_5_method_7_code (3 : Nat) (Option.some (FieldType.object "HotEditions$Method"))) ∈ pmWs := pmWs_2 (List.mem_of_getElem? (i := 127) rfl) rfl
theorem w_368 : (Jvm.Cond.methodLink "HotEditions$Transformer" (57 : Nat) ({ cls := "HotEditions$Transformer", name := "emptyAllCode", desc := "(LHotEditions$Definition;)V" } : MethodName)) ∈ pmWs := pmWs_2 (List.mem_of_getElem? (i := 128) rfl) rfl
theorem w_369 : (Jvm.Cond.static ({ cls := "HotEditions$Transformer", name := "emptyAllCode", desc := "(LHotEditions$Definition;)V" } : MethodName)) ∈ pmWs := pmWs_2 (List.mem_of_getElem? (i := 129) rfl) rfl
theorem w_370 : (Jvm.Cond.code ({ cls := "HotEditions$Transformer", name := "emptyAllCode", desc := "(LHotEditions$Definition;)V" } : MethodName) prog_11_method_4_code (2 : Nat) (Option.none : Option FieldType)) ∈ pmWs := pmWs_2 (List.mem_of_getElem? (i := 130) rfl) rfl
theorem w_371 : (Jvm.Cond.methodLink "HotEditions$Transformer" (64 : Nat) ({ cls := "HotEditions$Code", name := "clear", desc := "()V" } : MethodName)) ∈ pmWs := pmWs_2 (List.mem_of_getElem? (i := 131) rfl) rfl
theorem w_372 : (Jvm.Cond.methodLink "HotEditions$Chain" (51 : Nat) ({ cls := "HotEditions$Definition", name := "become", desc := "(LHotEditions$Definition;)V" } : MethodName)) ∈ pmWs := pmWs_2 (List.mem_of_getElem? (i := 132) rfl) rfl
theorem w_373 : (Jvm.Cond.methodLink "HotEditions" (117 : Nat) ({ cls := "HotEditions$Rules", name := "firstBrokenAlone", desc := "(LHotEditions$Definition;LHotEditions$Shelf;)I" } : MethodName)) ∈ pmWs := pmWs_2 (List.mem_of_getElem? (i := 133) rfl) rfl
theorem w_374 : (Jvm.Cond.static ({ cls := "HotEditions$Rules", name := "firstBrokenAlone", desc := "(LHotEditions$Definition;LHotEditions$Shelf;)I" } : MethodName)) ∈ pmWs := pmWs_2 (List.mem_of_getElem? (i := 134) rfl) rfl
theorem w_375 : (Jvm.Cond.code ({ cls := "HotEditions$Rules", name := "firstBrokenAlone", desc := "(LHotEditions$Definition;LHotEditions$Shelf;)I" } : MethodName) prog_9_method_3_code (2 : Nat) (Option.some FieldType.int)) ∈ pmWs := pmWs_2 (List.mem_of_getElem? (i := 135) rfl) rfl
theorem w_376 : (Jvm.Cond.methodLink "HotEditions$Rules" (25 : Nat) ({ cls := "HotEditions$Definition", name := "hasEqualInterfaces", desc := "()Z" } : MethodName)) ∈ pmWs := pmWs_2 (List.mem_of_getElem? (i := 136) rfl) rfl
theorem w_377 : (Jvm.Cond.instanceMethod ({ cls := "HotEditions$Definition", name := "hasEqualInterfaces", desc := "()Z" } : MethodName)) ∈ pmWs := pmWs_2 (List.mem_of_getElem? (i := 137) rfl) rfl
theorem w_378 : (Jvm.Cond.selects "HotEditions$Definition" ({ cls := "HotEditions$Definition", name := "hasEqualInterfaces", desc := "()Z" } : MethodName) ({ cls := "HotEditions$Definition", name := "hasEqualInterfaces", desc := "()Z" } : MethodName)) ∈ pmWs := pmWs_2 (List.mem_of_getElem? (i := 138) rfl) rfl
theorem w_379 : (Jvm.Cond.code ({ cls := "HotEditions$Definition", name := "hasEqualInterfaces", desc := "()Z" } : MethodName) prog_5_method_9_code (3 : Nat) (Option.some FieldType.boolean)) ∈ pmWs := pmWs_2 (List.mem_of_getElem? (i := 139) rfl) rfl
theorem w_380 : (Jvm.Cond.methodLink "HotEditions$Rules" (29 : Nat) ({ cls := "HotEditions$Definition", name := "hasFieldsOfOneName", desc := "()Z" } : MethodName)) ∈ pmWs := pmWs_2 (List.mem_of_getElem? (i := 140) rfl) rfl
theorem w_381 : (Jvm.Cond.instanceMethod ({ cls := "HotEditions$Definition", name := "hasFieldsOfOneName", desc := "()Z" } : MethodName)) ∈ pmWs := pmWs_2 (List.mem_of_getElem? (i := 141) rfl) rfl
theorem w_382 : (Jvm.Cond.selects "HotEditions$Definition" ({ cls := "HotEditions$Definition", name := "hasFieldsOfOneName", desc := "()Z" } : MethodName) ({ cls := "HotEditions$Definition", name := "hasFieldsOfOneName", desc := "()Z" } : MethodName)) ∈ pmWs := pmWs_2 (List.mem_of_getElem? (i := 142) rfl) rfl
theorem w_383 : (Jvm.Cond.code ({ cls := "HotEditions$Definition", name := "hasFieldsOfOneName", desc := "()Z" } : MethodName) prog_5_method_10_code (3 : Nat) (Option.some FieldType.boolean)) ∈ pmWs := pmWs_2 (List.mem_of_getElem? (i := 143) rfl) rfl
theorem w_384 : (Jvm.Cond.methodLink "HotEditions$Rules" (32 : Nat) ({ cls := "HotEditions$Definition", name := "hasMethodsOfOneName", desc := "()Z" } : MethodName)) ∈ pmWs := pmWs_2 (List.mem_of_getElem? (i := 144) rfl) rfl
theorem w_385 : (Jvm.Cond.instanceMethod ({ cls := "HotEditions$Definition", name := "hasMethodsOfOneName", desc := "()Z" } : MethodName)) ∈ pmWs := pmWs_2 (List.mem_of_getElem? (i := 145) rfl) rfl
theorem w_386 : (Jvm.Cond.selects "HotEditions$Definition" ({ cls := "HotEditions$Definition", name := "hasMethodsOfOneName", desc := "()Z" } : MethodName) ({ cls := "HotEditions$Definition", name := "hasMethodsOfOneName", desc := "()Z" } : MethodName)) ∈ pmWs := pmWs_2 (List.mem_of_getElem? (i := 146) rfl) rfl
theorem w_387 : (Jvm.Cond.code ({ cls := "HotEditions$Definition", name := "hasMethodsOfOneName", desc := "()Z" } : MethodName) prog_5_method_11_code (3 : Nat) (Option.some FieldType.boolean)) ∈ pmWs := pmWs_2 (List.mem_of_getElem? (i := 147) rfl) rfl
theorem w_388 : (Jvm.Cond.methodLink "HotEditions$Rules" (35 : Nat) ({ cls := "HotEditions$Rules", name := "hasUnknownOp", desc := "(LHotEditions$Definition;)Z" } : MethodName)) ∈ pmWs := pmWs_2 (List.mem_of_getElem? (i := 148) rfl) rfl
theorem w_389 : (Jvm.Cond.static ({ cls := "HotEditions$Rules", name := "hasUnknownOp", desc := "(LHotEditions$Definition;)Z" } : MethodName)) ∈ pmWs := pmWs_2 (List.mem_of_getElem? (i := 149) rfl) rfl
theorem w_390 : (Jvm.Cond.code ({ cls := "HotEditions$Rules", name := "hasUnknownOp", desc := "(LHotEditions$Definition;)Z" } : MethodName) prog_9_method_5_code (4 : Nat) (Option.some FieldType.boolean)) ∈ pmWs := pmWs_2 (List.mem_of_getElem? (i := 150) rfl) rfl
theorem w_391 : (Jvm.Cond.methodLink "HotEditions$Rules" (80 : Nat) ({ cls := "HotEditions$Code", name := "opAt", desc := "(I)I" } : MethodName)) ∈ pmWs := pmWs_2 (List.mem_of_getElem? (i := 151) rfl) rfl
theorem w_392 : (Jvm.Cond.methodLink "HotEditions$Rules" (39 : Nat) ({ cls := "HotEditions$Rules", name := "meetsItselfAbove", desc := "(LHotEditions$Definition;LHotEditions$Shelf;)Z" } : MethodName)) ∈ pmWs := pmWs_2 (List.mem_of_getElem? (i := 152) rfl) rfl
theorem w_393 : (Jvm.Cond.static ({ cls := "HotEditions$Rules", name := "meetsItselfAbove", desc := "(LHotEditions$Definition;LHotEditions$Shelf;)Z" } : MethodName)) ∈ pmWs := pmWs_2 (List.mem_of_getElem? (i := 153) rfl) rfl
theorem w_394 : (Jvm.Cond.code ({ cls := "HotEditions$Rules", name := "meetsItselfAbove", desc := "(LHotEditions$Definition;LHotEditions$Shelf;)Z" } : MethodName) prog_9_method_6_code (5 : Nat) (Option.some FieldType.boolean)) ∈ pmWs := pmWs_2 (List.mem_of_getElem? (i := 154) rfl) rfl
theorem w_395 : (Jvm.Cond.methodLink "HotEditions$Rules" (84 : Nat) ({ cls := "HotEditions$Shelf", name := "find", desc := "(I)LHotEditions$LoadedClass;" } : MethodName)) ∈ pmWs := pmWs_2 (List.mem_of_getElem? (i := 155) rfl) rfl
theorem w_396 : (Jvm.Cond.methodLink "HotEditions$Rules" (43 : Nat) ({ cls := "HotEditions$Rules", name := "lacksSuper", desc := "(LHotEditions$Definition;LHotEditions$Shelf;)Z" } : MethodName)) ∈ pmWs := pmWs_2 (List.mem_of_getElem? (i := 156) rfl) rfl
theorem w_397 : (Jvm.Cond.static ({ cls := "HotEditions$Rules", name := "lacksSuper", desc := "(LHotEditions$Definition;LHotEditions$Shelf;)Z" } : MethodName)) ∈ pmWs := pmWs_2 (List.mem_of_getElem? (i := 157) rfl) rfl
theorem w_398 : (Jvm.Cond.code ({ cls := "HotEditions$Rules", name := "lacksSuper", desc := "(LHotEditions$Definition;LHotEditions$Shelf;)Z" } : MethodName) prog_9_method_7_code (2 : Nat) (Option.some FieldType.boolean)) ∈ pmWs := pmWs_2 (List.mem_of_getElem? (i := 158) rfl) rfl
theorem w_399 : (Jvm.Cond.methodLink "HotEditions$Rules" (46 : Nat) ({ cls := "HotEditions$Rules", name := "lacksCalledMethod", desc := "(LHotEditions$Definition;LHotEditions$Shelf;)Z" } : MethodName)) ∈ pmWs := pmWs_2 (List.mem_of_getElem? (i := 159) rfl) rfl
theorem w_400 : (Jvm.Cond.static ({ cls := "HotEditions$Rules", name := "lacksCalledMethod", desc := "(LHotEditions$Definition;LHotEditions$Shelf;)Z" } : MethodName)) ∈ pmWs := pmWs_2 (List.mem_of_getElem? (i := 160) rfl) rfl
theorem w_401 : (Jvm.Cond.code ({ cls := "HotEditions$Rules", name := "lacksCalledMethod", desc := "(LHotEditions$Definition;LHotEditions$Shelf;)Z" } : MethodName) prog_9_method_8_code (5 : Nat) (Option.some FieldType.boolean)) ∈ pmWs := pmWs_2 (List.mem_of_getElem? (i := 161) rfl) rfl
theorem w_402 : (Jvm.Cond.methodLink "HotEditions$Rules" (96 : Nat) ({ cls := "HotEditions$Code", name := "firstOperandAt", desc := "(I)I" } : MethodName)) ∈ pmWs := pmWs_2 (List.mem_of_getElem? (i := 162) rfl) rfl
theorem w_403 : (Jvm.Cond.instanceMethod ({ cls := "HotEditions$Code", name := "firstOperandAt", desc := "(I)I" } : MethodName)) ∈ pmWs := pmWs_2 (List.mem_of_getElem? (i := 163) rfl) rfl
theorem w_404 : (Jvm.Cond.selects "HotEditions$Code" ({ cls := "HotEditions$Code", name := "firstOperandAt", desc := "(I)I" } : MethodName) ({ cls := "HotEditions$Code", name := "firstOperandAt", desc := "(I)I" } : MethodName)) ∈ pmWs := pmWs_2 (List.mem_of_getElem? (i := 164) rfl) rfl
theorem w_405 : (Jvm.Cond.code ({ cls := "HotEditions$Code", name := "firstOperandAt", desc := "(I)I" } : MethodName) prog_4_method_6_code (2 : Nat) (Option.some FieldType.int)) ∈ pmWs := pmWs_2 (List.mem_of_getElem? (i := 165) rfl) rfl
theorem w_406 : (Jvm.Cond.methodLink "HotEditions$Rules" (99 : Nat) ({ cls := "HotEditions$Code", name := "secondOperandAt", desc := "(I)I" } : MethodName)) ∈ pmWs := pmWs_2 (List.mem_of_getElem? (i := 166) rfl) rfl
theorem w_407 : (Jvm.Cond.instanceMethod ({ cls := "HotEditions$Code", name := "secondOperandAt", desc := "(I)I" } : MethodName)) ∈ pmWs := pmWs_2 (List.mem_of_getElem? (i := 167) rfl) rfl
theorem w_408 : (Jvm.Cond.selects "HotEditions$Code" ({ cls := "HotEditions$Code", name := "secondOperandAt", desc := "(I)I" } : MethodName) ({ cls := "HotEditions$Code", name := "secondOperandAt", desc := "(I)I" } : MethodName)) ∈ pmWs := pmWs_2 (List.mem_of_getElem? (i := 168) rfl) rfl
theorem w_409 : (Jvm.Cond.code ({ cls := "HotEditions$Code", name := "secondOperandAt", desc := "(I)I" } : MethodName) prog_4_method_7_code (2 : Nat) (Option.some FieldType.int)) ∈ pmWs := pmWs_2 (List.mem_of_getElem? (i := 169) rfl) rfl
theorem w_410 : (Jvm.Cond.methodLink "HotEditions$Rules" (102 : Nat) ({ cls := "HotEditions$Rules", name := "isCallable", desc := "(LHotEditions$Definition;IILHotEditions$Shelf;)Z" } : MethodName)) ∈ pmWs := pmWs_2 (List.mem_of_getElem? (i := 170) rfl) rfl
theorem w_411 : (Jvm.Cond.static ({ cls := "HotEditions$Rules", name := "isCallable", desc := "(LHotEditions$Definition;IILHotEditions$Shelf;)Z" } : MethodName)) ∈ pmWs := pmWs_2 (List.mem_of_getElem? (i := 171) rfl) rfl
theorem w_412 : (Jvm.Cond.code ({ cls := "HotEditions$Rules", name := "isCallable", desc := "(LHotEditions$Definition;IILHotEditions$Shelf;)Z" } : MethodName) prog_9_method_9_code (5 : Nat) (Option.some FieldType.boolean)) ∈ pmWs := pmWs_2 (List.mem_of_getElem? (i := 172) rfl) rfl
theorem w_413 : (Jvm.Cond.methodLink "HotEditions$Rules" (106 : Nat) ({ cls := "HotEditions$Definition", name := "findMethod", desc := "(I)LHotEditions$Method;" } : MethodName)) ∈ pmWs := pmWs_2 (List.mem_of_getElem? (i := 173) rfl) rfl
theorem w_414 : (Jvm.Cond.methodLink "HotEditions" (123 : Nat) ({ cls := "HotEditions", name := "isClass", desc := "(I)Z" } : MethodName)) ∈ pmWs := pmWs_2 (List.mem_of_getElem? (i := 174) rfl) rfl
theorem w_415 : (Jvm.Cond.static ({ cls := "HotEditions", name := "isClass", desc := "(I)Z" } : MethodName)) ∈ pmWs := pmWs_2 (List.mem_of_getElem? (i := 175) rfl) rfl
theorem w_416 : (Jvm.Cond.code ({ cls := "HotEditions", name := "isClass", desc := "(I)Z" } : MethodName) prog_1_method_22_code (1 : Nat) (Option.some FieldType.boolean)) ∈ pmWs := pmWs_2 (List.mem_of_getElem? (i := 176) rfl) rfl
theorem w_417 : (Jvm.Cond.methodLink "HotEditions" (126 : Nat) ({ cls := "HotEditions$Shelf", name := "add", desc := "(ILHotEditions$Trial;)V" } : MethodName)) ∈ pmWs := pmWs_2 (List.mem_of_getElem? (i := 177) rfl) rfl
theorem w_418 : (Jvm.Cond.instanceMethod ({ cls := "HotEditions$Shelf", name := "add", desc := "(ILHotEditions$Trial;)V" } : MethodName)) ∈ pmWs := pmWs_2 (List.mem_of_getElem? (i := 178) rfl) rfl
theorem w_419 : (Jvm.Cond.selects "HotEditions$Shelf" ({ cls := "HotEditions$Shelf", name := "add", desc := "(ILHotEditions$Trial;)V" } : MethodName) ({ cls := "HotEditions$Shelf", name := "add", desc := "(ILHotEditions$Trial;)V" } : MethodName)) ∈ pmWs := pmWs_2 (List.mem_of_getElem? (i := 179) rfl) rfl
theorem w_420 : (Jvm.Cond.code ({ cls := "HotEditions$Shelf", name := "add", desc := "(ILHotEditions$Trial;)V" } : MethodName) prog_10_method_3_code (4 : Nat) (Option.none : Option FieldType)) ∈ pmWs := pmWs_2 (List.mem_of_getElem? (i := 180) rfl) rfl
theorem w_421 : (Jvm.Cond.methodLinkNest "HotEditions$Shelf" (17 : Nat) ({ cls := "HotEditions", name := "isClass", desc := "(I)Z" } : MethodName) "HotEditions") ∈ pmWs := pmWs_2 (List.mem_of_getElem? (i := 181) rfl) rfl
theorem w_422 : (Jvm.Cond.instantiable "HotEditions$LoadedClass" (3 : Nat)) ∈ pmWs := pmWs_2 (List.mem_of_getElem? (i := 182) rfl) rfl
theorem w_423 : (Jvm.Cond.methodLinkNest "HotEditions$Shelf" (21 : Nat) ({ cls := "HotEditions$LoadedClass", name := "<init>", desc := "()V" } : MethodName) "HotEditions") ∈ pmWs := pmWs_2 (List.mem_of_getElem? (i := 183) rfl) rfl
theorem w_424 : (Jvm.Cond.instanceMethod ({ cls := "HotEditions$LoadedClass", name := "<init>", desc := "()V" } : MethodName)) ∈ pmWs := pmWs_2 (List.mem_of_getElem? (i := 184) rfl) rfl
theorem w_425 : (Jvm.Cond.code ({ cls := "HotEditions$LoadedClass", name := "<init>", desc := "()V" } : MethodName) prog_7_method_1_code (1 : Nat) (Option.none : Option FieldType)) ∈ pmWs := pmWs_2 (List.mem_of_getElem? (i := 185) rfl) rfl
theorem w_426 : (Jvm.Cond.methodLink "HotEditions$LoadedClass" (1 : Nat) ({ cls := "java/lang/Object", name := "<init>", desc := "()V" } : MethodName)) ∈ pmWs := pmWs_2 (List.mem_of_getElem? (i := 186) rfl) rfl
theorem w_427 : (Jvm.Cond.classLink "HotEditions$LoadedClass" (13 : Nat) "HotEditions$Definition") ∈ pmWs := pmWs_2 (List.mem_of_getElem? (i := 187) rfl) rfl
theorem w_428 : (Jvm.Cond.methodLink "HotEditions$LoadedClass" (15 : Nat) ({ cls := "HotEditions$Definition", name := "<init>", desc := "()V" } : MethodName)) ∈ pmWs := pmWs_2 (List.mem_of_getElem? (i := 188) rfl) rfl
theorem w_429 : (Jvm.Cond.fieldLink "HotEditions$LoadedClass" (7 : Nat) "HotEditions$LoadedClass" "edition" "I") ∈ pmWs := pmWs_2 (List.mem_of_getElem? (i := 189) rfl) rfl
theorem w_430 : (Jvm.Cond.fieldLinkNest "HotEditions$Calls" (43 : Nat) "HotEditions$LoadedClass" "edition" "I" "HotEditions") ∈ pmWs := pmWs_2 (List.mem_of_getElem? (i := 190) rfl) rfl
theorem w_431 : (Jvm.Cond.fieldLinkNest "HotEditions" (189 : Nat) "HotEditions$LoadedClass" "edition" "I" "HotEditions") ∈ pmWs := pmWs_2 (List.mem_of_getElem? (i := 191) rfl) rfl
theorem w_432 : (Jvm.Cond.fieldLink "HotEditions$LoadedClass" (16 : Nat) "HotEditions$LoadedClass" "current" "LHotEditions$Definition;") ∈ pmWs := pmWs_2 (List.mem_of_getElem? (i := 192) rfl) rfl
theorem w_433 : (Jvm.Cond.fieldLinkNest "HotEditions$Calls" (31 : Nat) "HotEditions$LoadedClass" "current" "LHotEditions$Definition;" "HotEditions") ∈ pmWs := pmWs_2 (List.mem_of_getElem? (i := 193) rfl) rfl
theorem w_434 : (Jvm.Cond.fieldLinkNest "HotEditions" (62 : Nat) "HotEditions$LoadedClass" "current" "LHotEditions$Definition;" "HotEditions") ∈ pmWs := pmWs_2 (List.mem_of_getElem? (i := 194) rfl) rfl
theorem w_435 : (Jvm.Cond.fieldLinkNest "HotEditions$Rules" (90 : Nat) "HotEditions$LoadedClass" "current" "LHotEditions$Definition;" "HotEditions") ∈ pmWs := pmWs_2 (List.mem_of_getElem? (i := 195) rfl) rfl
theorem w_436 : (Jvm.Cond.fieldLink "HotEditions$LoadedClass" (20 : Nat) "HotEditions$LoadedClass" "original" "LHotEditions$Definition;") ∈ pmWs := pmWs_2 (List.mem_of_getElem? (i := 196) rfl) rfl
theorem w_437 : (Jvm.Cond.fieldLinkNest "HotEditions$Shelf" (32 : Nat) "HotEditions$LoadedClass" "original" "LHotEditions$Definition;" "HotEditions") ∈ pmWs := pmWs_2 (List.mem_of_getElem? (i := 197) rfl) rfl
theorem w_438 : (Jvm.Cond.fieldLinkNest "HotEditions" (146 : Nat) "HotEditions$LoadedClass" "original" "LHotEditions$Definition;" "HotEditions") ∈ pmWs := pmWs_2 (List.mem_of_getElem? (i := 198) rfl) rfl
theorem w_439 : (Jvm.Cond.lays "HotEditions$LoadedClass" "HotEditions$LoadedClass" "edition" "I") ∈ pmWs := pmWs_2 (List.mem_of_getElem? (i := 199) rfl) rfl
theorem w_441 : (Jvm.Cond.laysFinal "HotEditions$LoadedClass" "HotEditions$LoadedClass" "current" "LHotEditions$Definition;") ∈ pmWs := pmWs_2 (List.mem_of_getElem? (i := 201) rfl) rfl
theorem w_443 : (Jvm.Cond.laysFinal "HotEditions$LoadedClass" "HotEditions$LoadedClass" "original" "LHotEditions$Definition;") ∈ pmWs := pmWs_2 (List.mem_of_getElem? (i := 203) rfl) rfl
theorem w_446 : (Jvm.Cond.methodLink "HotEditions$Shelf" (28 : Nat) ({ cls := "HotEditions$LoadedClass", name := "addEdition", desc := "(LHotEditions$Definition;)V" } : MethodName)) ∈ pmWs := pmWs_2 (List.mem_of_getElem? (i := 206) rfl) rfl
theorem w_447 : (Jvm.Cond.instanceMethod ({ cls := "HotEditions$LoadedClass", name := "addEdition", desc := "(LHotEditions$Definition;)V" } : MethodName)) ∈ pmWs := pmWs_2 (List.mem_of_getElem? (i := 207) rfl) rfl
theorem w_448 : (Jvm.Cond.selects "HotEditions$LoadedClass" ({ cls := "HotEditions$LoadedClass", name := "addEdition", desc := "(LHotEditions$Definition;)V" } : MethodName) ({ cls := "HotEditions$LoadedClass", name := "addEdition", desc := "(LHotEditions$Definition;)V" } : MethodName)) ∈ pmWs := pmWs_2 (List.mem_of_getElem? (i := 208) rfl) rfl
theorem w_449 : (Jvm.Cond.code ({ cls := "HotEditions$LoadedClass", name := "addEdition", desc := "(LHotEditions$Definition;)V" } : MethodName) prog_7_method_2_code (2 : Nat) (Option.none : Option FieldType)) ∈ pmWs := pmWs_2 (List.mem_of_getElem? (i := 209) rfl) rfl
theorem w_450 : (Jvm.Cond.methodLink "HotEditions$LoadedClass" (23 : Nat) ({ cls := "HotEditions$Definition", name := "become", desc := "(LHotEditions$Definition;)V" } : MethodName)) ∈ pmWs := pmWs_2 (List.mem_of_getElem? (i := 210) rfl) rfl
theorem w_451 : (Jvm.Cond.methodLink "HotEditions$Shelf" (36 : Nat) ({ cls := "HotEditions$Definition", name := "become", desc := "(LHotEditions$Definition;)V" } : MethodName)) ∈ pmWs := pmWs_2 (List.mem_of_getElem? (i := 211) rfl) rfl
theorem w_452 : (Jvm.Cond.methodLink "HotEditionsLaw" (53 : Nat) ({ cls := "HotEditions", name := "transformer", desc := "(IIIZ)I" } : MethodName)) ∈ pmWs := pmWs_2 (List.mem_of_getElem? (i := 212) rfl) rfl
theorem w_453 : (Jvm.Cond.instanceMethod ({ cls := "HotEditions", name := "transformer", desc := "(IIIZ)I" } : MethodName)) ∈ pmWs := pmWs_2 (List.mem_of_getElem? (i := 213) rfl) rfl
theorem w_454 : (Jvm.Cond.selects "HotEditions" ({ cls := "HotEditions", name := "transformer", desc := "(IIIZ)I" } : MethodName) ({ cls := "HotEditions", name := "transformer", desc := "(IIIZ)I" } : MethodName)) ∈ pmWs := pmWs_2 (List.mem_of_getElem? (i := 214) rfl) rfl
theorem w_455 : (Jvm.Cond.code ({ cls := "HotEditions", name := "transformer", desc := "(IIIZ)I" } : MethodName) prog_1_method_11_code (5 : Nat) (Option.some FieldType.int)) ∈ pmWs := pmWs_2 (List.mem_of_getElem? (i := 215) rfl) rfl
theorem w_456 : (Jvm.Cond.methodLink "HotEditions" (129 : Nat) ({ cls := "HotEditions$Chain", name := "put", desc := "(IIIZ)I" } : MethodName)) ∈ pmWs := pmWs_2 (List.mem_of_getElem? (i := 216) rfl) rfl
theorem w_457 : (Jvm.Cond.instanceMethod ({ cls := "HotEditions$Chain", name := "put", desc := "(IIIZ)I" } : MethodName)) ∈ pmWs := pmWs_2 (List.mem_of_getElem? (i := 217) rfl) rfl
theorem w_458 : (Jvm.Cond.selects "HotEditions$Chain" ({ cls := "HotEditions$Chain", name := "put", desc := "(IIIZ)I" } : MethodName) ({ cls := "HotEditions$Chain", name := "put", desc := "(IIIZ)I" } : MethodName)) ∈ pmWs := pmWs_2 (List.mem_of_getElem? (i := 218) rfl) rfl
theorem w_459 : (Jvm.Cond.code ({ cls := "HotEditions$Chain", name := "put", desc := "(IIIZ)I" } : MethodName) prog_3_method_2_code (7 : Nat) (Option.some FieldType.int)) ∈ pmWs := pmWs_2 (List.mem_of_getElem? (i := 219) rfl) rfl
theorem w_460 : (Jvm.Cond.methodLink "HotEditionsLaw" (58 : Nat) ({ cls := "HotEditions", name := "remove", desc := "(I)Z" } : MethodName)) ∈ pmWs := pmWs_2 (List.mem_of_getElem? (i := 220) rfl) rfl
theorem w_461 : (Jvm.Cond.instanceMethod ({ cls := "HotEditions", name := "remove", desc := "(I)Z" } : MethodName)) ∈ pmWs := pmWs_2 (List.mem_of_getElem? (i := 221) rfl) rfl
theorem w_462 : (Jvm.Cond.selects "HotEditions" ({ cls := "HotEditions", name := "remove", desc := "(I)Z" } : MethodName) ({ cls := "HotEditions", name := "remove", desc := "(I)Z" } : MethodName)) ∈ pmWs := pmWs_2 (List.mem_of_getElem? (i := 222) rfl) rfl
theorem w_463 : (Jvm.Cond.code ({ cls := "HotEditions", name := "remove", desc := "(I)Z" } : MethodName) prog_1_method_12_code (2 : Nat) (Option.some FieldType.boolean)) ∈ pmWs := pmWs_2 (List.mem_of_getElem? (i := 223) rfl) rfl
theorem w_464 : (Jvm.Cond.methodLink "HotEditions" (133 : Nat) ({ cls := "HotEditions$Chain", name := "free", desc := "(I)Z" } : MethodName)) ∈ pmWs := pmWs_2 (List.mem_of_getElem? (i := 224) rfl) rfl
theorem w_465 : (Jvm.Cond.instanceMethod ({ cls := "HotEditions$Chain", name := "free", desc := "(I)Z" } : MethodName)) ∈ pmWs := pmWs_2 (List.mem_of_getElem? (i := 225) rfl) rfl
theorem w_466 : (Jvm.Cond.selects "HotEditions$Chain" ({ cls := "HotEditions$Chain", name := "free", desc := "(I)Z" } : MethodName) ({ cls := "HotEditions$Chain", name := "free", desc := "(I)Z" } : MethodName)) ∈ pmWs := pmWs_2 (List.mem_of_getElem? (i := 226) rfl) rfl
theorem w_467 : (Jvm.Cond.code ({ cls := "HotEditions$Chain", name := "free", desc := "(I)Z" } : MethodName) prog_3_method_3_code (2 : Nat) (Option.some FieldType.boolean)) ∈ pmWs := pmWs_2 (List.mem_of_getElem? (i := 227) rfl) rfl
theorem w_468 : (Jvm.Cond.methodLink "HotEditionsLaw" (62 : Nat) ({ cls := "HotEditions", name := "queue", desc := "(I)Z" } : MethodName)) ∈ pmWs := pmWs_2 (List.mem_of_getElem? (i := 228) rfl) rfl
theorem w_469 : (Jvm.Cond.instanceMethod ({ cls := "HotEditions", name := "queue", desc := "(I)Z" } : MethodName)) ∈ pmWs := pmWs_2 (List.mem_of_getElem? (i := 229) rfl) rfl
theorem w_470 : (Jvm.Cond.selects "HotEditions" ({ cls := "HotEditions", name := "queue", desc := "(I)Z" } : MethodName) ({ cls := "HotEditions", name := "queue", desc := "(I)Z" } : MethodName)) ∈ pmWs := pmWs_2 (List.mem_of_getElem? (i := 230) rfl) rfl
theorem w_471 : (Jvm.Cond.code ({ cls := "HotEditions", name := "queue", desc := "(I)Z" } : MethodName) prog_1_method_13_code (2 : Nat) (Option.some FieldType.boolean)) ∈ pmWs := pmWs_2 (List.mem_of_getElem? (i := 231) rfl) rfl
theorem w_472 : (Jvm.Cond.methodLink "HotEditions" (136 : Nat) ({ cls := "HotEditions", name := "isInBatch", desc := "(I)Z" } : MethodName)) ∈ pmWs := pmWs_2 (List.mem_of_getElem? (i := 232) rfl) rfl
theorem w_474 : (Jvm.Cond.instanceMethod ({ cls := "HotEditions", name := "isInBatch", desc := "(I)Z" } : MethodName)) ∈ pmWs := pmWs_2 (List.mem_of_getElem? (i := 234) rfl) rfl
theorem w_475 : (Jvm.Cond.code ({ cls := "HotEditions", name := "isInBatch", desc := "(I)Z" } : MethodName) prog_1_method_24_code (3 : Nat) (Option.some FieldType.boolean)) ∈ pmWs := pmWs_2 (List.mem_of_getElem? (i := 235) rfl) rfl
theorem w_476 : (Jvm.Cond.methodLink "HotEditionsLaw" (66 : Nat) ({ cls := "HotEditions", name := "swap", desc := "()I" } : MethodName)) ∈ pmWs := pmWs_2 (List.mem_of_getElem? (i := 236) rfl) rfl
theorem w_477 : (Jvm.Cond.instanceMethod ({ cls := "HotEditions", name := "swap", desc := "()I" } : MethodName)) ∈ pmWs := pmWs_2 (List.mem_of_getElem? (i := 237) rfl) rfl
theorem w_478 : (Jvm.Cond.selects "HotEditions" ({ cls := "HotEditions", name := "swap", desc := "()I" } : MethodName) ({ cls := "HotEditions", name := "swap", desc := "()I" } : MethodName)) ∈ pmWs := pmWs_2 (List.mem_of_getElem? (i := 238) rfl) rfl
theorem w_479 : (Jvm.Cond.code ({ cls := "HotEditions", name := "swap", desc := "()I" } : MethodName) prog_1_method_14_code (2 : Nat) (Option.some FieldType.int)) ∈ pmWs := pmWs_2 (List.mem_of_getElem? (i := 239) rfl) rfl
theorem w_480 : (Jvm.Cond.methodLink "HotEditions" (139 : Nat) ({ cls := "HotEditions", name := "firstBrokenOfBatch", desc := "()I" } : MethodName)) ∈ pmWs := pmWs_3 (List.mem_of_getElem? (i := 0) rfl) rfl
theorem w_482 : (Jvm.Cond.instanceMethod ({ cls := "HotEditions", name := "firstBrokenOfBatch", desc := "()I" } : MethodName)) ∈ pmWs := pmWs_3 (List.mem_of_getElem? (i := 2) rfl) rfl
theorem w_483 : (Jvm.Cond.code ({ cls := "HotEditions", name := "firstBrokenOfBatch", desc := "()I" } : MethodName) prog_1_method_25_code (5 : Nat) (Option.some FieldType.int)) ∈ pmWs := pmWs_3 (List.mem_of_getElem? (i := 3) rfl) rfl
theorem w_484 : (Jvm.Cond.methodLink "HotEditions" (153 : Nat) ({ cls := "HotEditions$Rules", name := "firstBroken", desc := "(LHotEditions$Definition;ILHotEditions$Definition;LHotEditions$Shelf;)I" } : MethodName)) ∈ pmWs := pmWs_3 (List.mem_of_getElem? (i := 4) rfl) rfl
theorem w_485 : (Jvm.Cond.static ({ cls := "HotEditions$Rules", name := "firstBroken", desc := "(LHotEditions$Definition;ILHotEditions$Definition;LHotEditions$Shelf;)I" } : MethodName)) ∈ pmWs := pmWs_3 (List.mem_of_getElem? (i := 5) rfl) rfl
theorem w_486 : (Jvm.Cond.code ({ cls := "HotEditions$Rules", name := "firstBroken", desc := "(LHotEditions$Definition;ILHotEditions$Definition;LHotEditions$Shelf;)I" } : MethodName) prog_9_method_2_code (5 : Nat) (Option.some FieldType.int)) ∈ pmWs := pmWs_3 (List.mem_of_getElem? (i := 6) rfl) rfl
theorem w_487 : (Jvm.Cond.methodLink "HotEditions$Rules" (9 : Nat) ({ cls := "HotEditions$Rules", name := "firstBrokenAlone", desc := "(LHotEditions$Definition;LHotEditions$Shelf;)I" } : MethodName)) ∈ pmWs := pmWs_3 (List.mem_of_getElem? (i := 7) rfl) rfl
theorem w_488 : (Jvm.Cond.methodLink "HotEditions$Rules" (15 : Nat) ({ cls := "HotEditions$Rules", name := "firstBrokenBeside", desc := "(LHotEditions$Definition;ILHotEditions$Definition;)I" } : MethodName)) ∈ pmWs := pmWs_3 (List.mem_of_getElem? (i := 8) rfl) rfl
theorem w_489 : (Jvm.Cond.static ({ cls := "HotEditions$Rules", name := "firstBrokenBeside", desc := "(LHotEditions$Definition;ILHotEditions$Definition;)I" } : MethodName)) ∈ pmWs := pmWs_3 (List.mem_of_getElem? (i := 9) rfl) rfl
theorem w_490 : (Jvm.Cond.code ({ cls := "HotEditions$Rules", name := "firstBrokenBeside", desc := "(LHotEditions$Definition;ILHotEditions$Definition;)I" } : MethodName) prog_9_method_4_code (3 : Nat) (Option.some FieldType.int)) ∈ pmWs := pmWs_3 (List.mem_of_getElem? (i := 10) rfl) rfl
theorem w_491 : (Jvm.Cond.methodLink "HotEditions$Rules" (49 : Nat) ({ cls := "HotEditions$Definition", name := "hasInterfacesOf", desc := "(LHotEditions$Definition;)Z" } : MethodName)) ∈ pmWs := pmWs_3 (List.mem_of_getElem? (i := 11) rfl) rfl
theorem w_492 : (Jvm.Cond.instanceMethod ({ cls := "HotEditions$Definition", name := "hasInterfacesOf", desc := "(LHotEditions$Definition;)Z" } : MethodName)) ∈ pmWs := pmWs_3 (List.mem_of_getElem? (i := 12) rfl) rfl
theorem w_493 : (Jvm.Cond.selects "HotEditions$Definition" ({ cls := "HotEditions$Definition", name := "hasInterfacesOf", desc := "(LHotEditions$Definition;)Z" } : MethodName) ({ cls := "HotEditions$Definition", name := "hasInterfacesOf", desc := "(LHotEditions$Definition;)Z" } : MethodName)) ∈ pmWs := pmWs_3 (List.mem_of_getElem? (i := 13) rfl) rfl
theorem w_494 : (Jvm.Cond.code ({ cls := "HotEditions$Definition", name := "hasInterfacesOf", desc := "(LHotEditions$Definition;)Z" } : MethodName) prog_5_method_13_code (3 : Nat) (Option.some FieldType.boolean)) ∈ pmWs := pmWs_3 (List.mem_of_getElem? (i := 14) rfl) rfl
theorem w_495 : (Jvm.Cond.methodLink "HotEditions$Definition" (64 : Nat) ({ cls := "HotEditions$Definition", name := "hasInterface", desc := "(I)Z" } : MethodName)) ∈ pmWs := pmWs_3 (List.mem_of_getElem? (i := 15) rfl) rfl
theorem w_496 : (Jvm.Cond.instanceMethod ({ cls := "HotEditions$Definition", name := "hasInterface", desc := "(I)Z" } : MethodName)) ∈ pmWs := pmWs_3 (List.mem_of_getElem? (i := 16) rfl) rfl
theorem w_497 : (Jvm.Cond.selects "HotEditions$Definition" ({ cls := "HotEditions$Definition", name := "hasInterface", desc := "(I)Z" } : MethodName) ({ cls := "HotEditions$Definition", name := "hasInterface", desc := "(I)Z" } : MethodName)) ∈ pmWs := pmWs_3 (List.mem_of_getElem? (i := 17) rfl) rfl
theorem w_498 : (Jvm.Cond.code ({ cls := "HotEditions$Definition", name := "hasInterface", desc := "(I)Z" } : MethodName) prog_5_method_8_code (3 : Nat) (Option.some FieldType.boolean)) ∈ pmWs := pmWs_3 (List.mem_of_getElem? (i := 18) rfl) rfl
theorem w_499 : (Jvm.Cond.methodLink "HotEditions$Rules" (52 : Nat) ({ cls := "HotEditions$Definition", name := "hasFieldsOf", desc := "(LHotEditions$Definition;)Z" } : MethodName)) ∈ pmWs := pmWs_3 (List.mem_of_getElem? (i := 19) rfl) rfl
theorem w_500 : (Jvm.Cond.instanceMethod ({ cls := "HotEditions$Definition", name := "hasFieldsOf", desc := "(LHotEditions$Definition;)Z" } : MethodName)) ∈ pmWs := pmWs_3 (List.mem_of_getElem? (i := 20) rfl) rfl
theorem w_501 : (Jvm.Cond.selects "HotEditions$Definition" ({ cls := "HotEditions$Definition", name := "hasFieldsOf", desc := "(LHotEditions$Definition;)Z" } : MethodName) ({ cls := "HotEditions$Definition", name := "hasFieldsOf", desc := "(LHotEditions$Definition;)Z" } : MethodName)) ∈ pmWs := pmWs_3 (List.mem_of_getElem? (i := 21) rfl) rfl
theorem w_502 : (Jvm.Cond.code ({ cls := "HotEditions$Definition", name := "hasFieldsOf", desc := "(LHotEditions$Definition;)Z" } : MethodName) prog_5_method_12_code (3 : Nat) (Option.some FieldType.boolean)) ∈ pmWs := pmWs_3 (List.mem_of_getElem? (i := 22) rfl) rfl
theorem w_503 : (Jvm.Cond.methodLink "HotEditions$Rules" (55 : Nat) ({ cls := "HotEditions$Definition", name := "hasMethodNamesOf", desc := "(LHotEditions$Definition;)Z" } : MethodName)) ∈ pmWs := pmWs_3 (List.mem_of_getElem? (i := 23) rfl) rfl
theorem w_504 : (Jvm.Cond.instanceMethod ({ cls := "HotEditions$Definition", name := "hasMethodNamesOf", desc := "(LHotEditions$Definition;)Z" } : MethodName)) ∈ pmWs := pmWs_3 (List.mem_of_getElem? (i := 24) rfl) rfl
theorem w_505 : (Jvm.Cond.selects "HotEditions$Definition" ({ cls := "HotEditions$Definition", name := "hasMethodNamesOf", desc := "(LHotEditions$Definition;)Z" } : MethodName) ({ cls := "HotEditions$Definition", name := "hasMethodNamesOf", desc := "(LHotEditions$Definition;)Z" } : MethodName)) ∈ pmWs := pmWs_3 (List.mem_of_getElem? (i := 25) rfl) rfl
theorem w_506 : (Jvm.Cond.code ({ cls := "HotEditions$Definition", name := "hasMethodNamesOf", desc := "(LHotEditions$Definition;)Z" } : MethodName) prog_5_method_14_code (3 : Nat) (Option.some FieldType.boolean)) ∈ pmWs := pmWs_3 (List.mem_of_getElem? (i := 26) rfl) rfl
theorem w_507 : (Jvm.Cond.methodLink "HotEditions$Definition" (68 : Nat) ({ cls := "HotEditions$Definition", name := "findMethod", desc := "(I)LHotEditions$Method;" } : MethodName)) ∈ pmWs := pmWs_3 (List.mem_of_getElem? (i := 27) rfl) rfl
theorem w_508 : (Jvm.Cond.methodLink "HotEditions$Rules" (58 : Nat) ({ cls := "HotEditions$Definition", name := "hasMethodFlagsOf", desc := "(LHotEditions$Definition;)Z" } : MethodName)) ∈ pmWs := pmWs_3 (List.mem_of_getElem? (i := 28) rfl) rfl
theorem w_509 : (Jvm.Cond.instanceMethod ({ cls := "HotEditions$Definition", name := "hasMethodFlagsOf", desc := "(LHotEditions$Definition;)Z" } : MethodName)) ∈ pmWs := pmWs_3 (List.mem_of_getElem? (i := 29) rfl) rfl
theorem w_510 : (Jvm.Cond.selects "HotEditions$Definition" ({ cls := "HotEditions$Definition", name := "hasMethodFlagsOf", desc := "(LHotEditions$Definition;)Z" } : MethodName) ({ cls := "HotEditions$Definition", name := "hasMethodFlagsOf", desc := "(LHotEditions$Definition;)Z" } : MethodName)) ∈ pmWs := pmWs_3 (List.mem_of_getElem? (i := 30) rfl) rfl
theorem w_511 : (Jvm.Cond.code ({ cls := "HotEditions$Definition", name := "hasMethodFlagsOf", desc := "(LHotEditions$Definition;)Z" } : MethodName) prog_5_method_15_code (4 : Nat) (Option.some FieldType.boolean)) ∈ pmWs := pmWs_3 (List.mem_of_getElem? (i := 31) rfl) rfl
theorem w_512 : (Jvm.Cond.methodLink "HotEditions" (143 : Nat) ({ cls := "HotEditions", name := "installBatch", desc := "()V" } : MethodName)) ∈ pmWs := pmWs_3 (List.mem_of_getElem? (i := 32) rfl) rfl
theorem w_514 : (Jvm.Cond.instanceMethod ({ cls := "HotEditions", name := "installBatch", desc := "()V" } : MethodName)) ∈ pmWs := pmWs_3 (List.mem_of_getElem? (i := 34) rfl) rfl
theorem w_515 : (Jvm.Cond.code ({ cls := "HotEditions", name := "installBatch", desc := "()V" } : MethodName) prog_1_method_26_code (3 : Nat) (Option.none : Option FieldType)) ∈ pmWs := pmWs_3 (List.mem_of_getElem? (i := 35) rfl) rfl
theorem w_516 : (Jvm.Cond.methodLink "HotEditions" (157 : Nat) ({ cls := "HotEditions$LoadedClass", name := "addEdition", desc := "(LHotEditions$Definition;)V" } : MethodName)) ∈ pmWs := pmWs_3 (List.mem_of_getElem? (i := 36) rfl) rfl
theorem w_517 : (Jvm.Cond.methodLink "HotEditionsLaw" (70 : Nat) ({ cls := "HotEditions", name := "repeat", desc := "(I)I" } : MethodName)) ∈ pmWs := pmWs_3 (List.mem_of_getElem? (i := 37) rfl) rfl
theorem w_518 : (Jvm.Cond.instanceMethod ({ cls := "HotEditions", name := "repeat", desc := "(I)I" } : MethodName)) ∈ pmWs := pmWs_3 (List.mem_of_getElem? (i := 38) rfl) rfl
theorem w_519 : (Jvm.Cond.selects "HotEditions" ({ cls := "HotEditions", name := "repeat", desc := "(I)I" } : MethodName) ({ cls := "HotEditions", name := "repeat", desc := "(I)I" } : MethodName)) ∈ pmWs := pmWs_3 (List.mem_of_getElem? (i := 39) rfl) rfl
theorem w_520 : (Jvm.Cond.code ({ cls := "HotEditions", name := "repeat", desc := "(I)I" } : MethodName) prog_1_method_15_code (4 : Nat) (Option.some FieldType.int)) ∈ pmWs := pmWs_3 (List.mem_of_getElem? (i := 40) rfl) rfl
theorem w_521 : (Jvm.Cond.methodLink "HotEditions" (149 : Nat) ({ cls := "HotEditions$Chain", name := "change", desc := "(LHotEditions$Definition;IZ)V" } : MethodName)) ∈ pmWs := pmWs_3 (List.mem_of_getElem? (i := 41) rfl) rfl
theorem w_522 : (Jvm.Cond.methodLink "HotEditionsLaw" (75 : Nat) ({ cls := "HotEditions", name := "start", desc := "(III)Z" } : MethodName)) ∈ pmWs := pmWs_3 (List.mem_of_getElem? (i := 42) rfl) rfl
theorem w_523 : (Jvm.Cond.instanceMethod ({ cls := "HotEditions", name := "start", desc := "(III)Z" } : MethodName)) ∈ pmWs := pmWs_3 (List.mem_of_getElem? (i := 43) rfl) rfl
theorem w_524 : (Jvm.Cond.selects "HotEditions" ({ cls := "HotEditions", name := "start", desc := "(III)Z" } : MethodName) ({ cls := "HotEditions", name := "start", desc := "(III)Z" } : MethodName)) ∈ pmWs := pmWs_3 (List.mem_of_getElem? (i := 44) rfl) rfl
theorem w_525 : (Jvm.Cond.code ({ cls := "HotEditions", name := "start", desc := "(III)Z" } : MethodName) prog_1_method_16_code (4 : Nat) (Option.some FieldType.boolean)) ∈ pmWs := pmWs_3 (List.mem_of_getElem? (i := 45) rfl) rfl
theorem w_526 : (Jvm.Cond.methodLink "HotEditions" (160 : Nat) ({ cls := "HotEditions", name := "isThread", desc := "(I)Z" } : MethodName)) ∈ pmWs := pmWs_3 (List.mem_of_getElem? (i := 46) rfl) rfl
theorem w_527 : (Jvm.Cond.static ({ cls := "HotEditions", name := "isThread", desc := "(I)Z" } : MethodName)) ∈ pmWs := pmWs_3 (List.mem_of_getElem? (i := 47) rfl) rfl
theorem w_528 : (Jvm.Cond.code ({ cls := "HotEditions", name := "isThread", desc := "(I)Z" } : MethodName) prog_1_method_23_code (1 : Nat) (Option.some FieldType.boolean)) ∈ pmWs := pmWs_3 (List.mem_of_getElem? (i := 48) rfl) rfl
theorem w_529 : (Jvm.Cond.methodLink "HotEditions" (166 : Nat) ({ cls := "HotEditions$Calls", name := "enter", desc := "(IILHotEditions$Shelf;)Z" } : MethodName)) ∈ pmWs := pmWs_3 (List.mem_of_getElem? (i := 49) rfl) rfl
theorem w_530 : (Jvm.Cond.instanceMethod ({ cls := "HotEditions$Calls", name := "enter", desc := "(IILHotEditions$Shelf;)Z" } : MethodName)) ∈ pmWs := pmWs_3 (List.mem_of_getElem? (i := 50) rfl) rfl
theorem w_531 : (Jvm.Cond.selects "HotEditions$Calls" ({ cls := "HotEditions$Calls", name := "enter", desc := "(IILHotEditions$Shelf;)Z" } : MethodName) ({ cls := "HotEditions$Calls", name := "enter", desc := "(IILHotEditions$Shelf;)Z" } : MethodName)) ∈ pmWs := pmWs_3 (List.mem_of_getElem? (i := 51) rfl) rfl
theorem w_532 : (Jvm.Cond.code ({ cls := "HotEditions$Calls", name := "enter", desc := "(IILHotEditions$Shelf;)Z" } : MethodName) prog_2_method_2_code (6 : Nat) (Option.some FieldType.boolean)) ∈ pmWs := pmWs_3 (List.mem_of_getElem? (i := 52) rfl) rfl
theorem w_533 : (Jvm.Cond.methodLink "HotEditions$Calls" (25 : Nat) ({ cls := "HotEditions$Shelf", name := "find", desc := "(I)LHotEditions$LoadedClass;" } : MethodName)) ∈ pmWs := pmWs_3 (List.mem_of_getElem? (i := 53) rfl) rfl
theorem w_534 : (Jvm.Cond.methodLink "HotEditions$Calls" (37 : Nat) ({ cls := "HotEditions$Definition", name := "findMethod", desc := "(I)LHotEditions$Method;" } : MethodName)) ∈ pmWs := pmWs_3 (List.mem_of_getElem? (i := 54) rfl) rfl
theorem w_535 : (Jvm.Cond.methodLink "HotEditions$Calls" (52 : Nat) ({ cls := "HotEditions$Frame", name := "begin", desc := "(IILHotEditions$Code;)V" } : MethodName)) ∈ pmWs := pmWs_3 (List.mem_of_getElem? (i := 55) rfl) rfl
theorem w_536 : (Jvm.Cond.instanceMethod ({ cls := "HotEditions$Frame", name := "begin", desc := "(IILHotEditions$Code;)V" } : MethodName)) ∈ pmWs := pmWs_3 (List.mem_of_getElem? (i := 56) rfl) rfl
theorem w_537 : (Jvm.Cond.selects "HotEditions$Frame" ({ cls := "HotEditions$Frame", name := "begin", desc := "(IILHotEditions$Code;)V" } : MethodName) ({ cls := "HotEditions$Frame", name := "begin", desc := "(IILHotEditions$Code;)V" } : MethodName)) ∈ pmWs := pmWs_3 (List.mem_of_getElem? (i := 57) rfl) rfl
theorem w_538 : (Jvm.Cond.code ({ cls := "HotEditions$Frame", name := "begin", desc := "(IILHotEditions$Code;)V" } : MethodName) prog_6_method_2_code (4 : Nat) (Option.none : Option FieldType)) ∈ pmWs := pmWs_3 (List.mem_of_getElem? (i := 58) rfl) rfl
theorem w_539 : (Jvm.Cond.methodLink "HotEditions$Frame" (31 : Nat) ({ cls := "HotEditions$Code", name := "become", desc := "(LHotEditions$Code;)V" } : MethodName)) ∈ pmWs := pmWs_3 (List.mem_of_getElem? (i := 59) rfl) rfl
theorem w_540 : (Jvm.Cond.methodLink "HotEditionsLaw" (79 : Nat) ({ cls := "HotEditions", name := "step", desc := "(II)I" } : MethodName)) ∈ pmWs := pmWs_3 (List.mem_of_getElem? (i := 60) rfl) rfl
theorem w_541 : (Jvm.Cond.instanceMethod ({ cls := "HotEditions", name := "step", desc := "(II)I" } : MethodName)) ∈ pmWs := pmWs_3 (List.mem_of_getElem? (i := 61) rfl) rfl
theorem w_542 : (Jvm.Cond.selects "HotEditions" ({ cls := "HotEditions", name := "step", desc := "(II)I" } : MethodName) ({ cls := "HotEditions", name := "step", desc := "(II)I" } : MethodName)) ∈ pmWs := pmWs_3 (List.mem_of_getElem? (i := 62) rfl) rfl
theorem w_543 : (Jvm.Cond.code ({ cls := "HotEditions", name := "step", desc := "(II)I" } : MethodName) prog_1_method_17_code (4 : Nat) (Option.some FieldType.int)) ∈ pmWs := pmWs_3 (List.mem_of_getElem? (i := 63) rfl) rfl
theorem w_544 : (Jvm.Cond.methodLink "HotEditions" (170 : Nat) ({ cls := "HotEditions$Calls", name := "advance", desc := "(LHotEditions$Shelf;)V" } : MethodName)) ∈ pmWs := pmWs_3 (List.mem_of_getElem? (i := 64) rfl) rfl
theorem w_545 : (Jvm.Cond.instanceMethod ({ cls := "HotEditions$Calls", name := "advance", desc := "(LHotEditions$Shelf;)V" } : MethodName)) ∈ pmWs := pmWs_3 (List.mem_of_getElem? (i := 65) rfl) rfl
theorem w_546 : (Jvm.Cond.selects "HotEditions$Calls" ({ cls := "HotEditions$Calls", name := "advance", desc := "(LHotEditions$Shelf;)V" } : MethodName) ({ cls := "HotEditions$Calls", name := "advance", desc := "(LHotEditions$Shelf;)V" } : MethodName)) ∈ pmWs := pmWs_3 (List.mem_of_getElem? (i := 66) rfl) rfl
theorem w_547 : (Jvm.Cond.code ({ cls := "HotEditions$Calls", name := "advance", desc := "(LHotEditions$Shelf;)V" } : MethodName) prog_2_method_3_code (4 : Nat) (Option.none : Option FieldType)) ∈ pmWs := pmWs_3 (List.mem_of_getElem? (i := 67) rfl) rfl
theorem w_548 : (Jvm.Cond.methodLink "HotEditions$Calls" (68 : Nat) ({ cls := "HotEditions$Calls", name := "leave", desc := "(I)V" } : MethodName)) ∈ pmWs := pmWs_3 (List.mem_of_getElem? (i := 68) rfl) rfl
theorem w_550 : (Jvm.Cond.instanceMethod ({ cls := "HotEditions$Calls", name := "leave", desc := "(I)V" } : MethodName)) ∈ pmWs := pmWs_3 (List.mem_of_getElem? (i := 70) rfl) rfl
theorem w_551 : (Jvm.Cond.code ({ cls := "HotEditions$Calls", name := "leave", desc := "(I)V" } : MethodName) prog_2_method_4_code (2 : Nat) (Option.none : Option FieldType)) ∈ pmWs := pmWs_3 (List.mem_of_getElem? (i := 71) rfl) rfl
theorem w_552 : (Jvm.Cond.methodLink "HotEditions$Calls" (72 : Nat) ({ cls := "HotEditions$Code", name := "opAt", desc := "(I)I" } : MethodName)) ∈ pmWs := pmWs_3 (List.mem_of_getElem? (i := 72) rfl) rfl
theorem w_553 : (Jvm.Cond.methodLink "HotEditions$Calls" (76 : Nat) ({ cls := "HotEditions$Code", name := "firstOperandAt", desc := "(I)I" } : MethodName)) ∈ pmWs := pmWs_3 (List.mem_of_getElem? (i := 73) rfl) rfl
theorem w_554 : (Jvm.Cond.methodLink "HotEditions$Calls" (79 : Nat) ({ cls := "HotEditions$Code", name := "secondOperandAt", desc := "(I)I" } : MethodName)) ∈ pmWs := pmWs_3 (List.mem_of_getElem? (i := 74) rfl) rfl
theorem w_555 : (Jvm.Cond.methodLink "HotEditions$Calls" (82 : Nat) ({ cls := "HotEditions$Calls", name := "enter", desc := "(IILHotEditions$Shelf;)Z" } : MethodName)) ∈ pmWs := pmWs_3 (List.mem_of_getElem? (i := 75) rfl) rfl
theorem w_556 : (Jvm.Cond.methodLink "HotEditionsLaw" (84 : Nat) ({ cls := "HotEditions", name := "frame", desc := "(II)I" } : MethodName)) ∈ pmWs := pmWs_3 (List.mem_of_getElem? (i := 76) rfl) rfl
theorem w_557 : (Jvm.Cond.instanceMethod ({ cls := "HotEditions", name := "frame", desc := "(II)I" } : MethodName)) ∈ pmWs := pmWs_3 (List.mem_of_getElem? (i := 77) rfl) rfl
theorem w_558 : (Jvm.Cond.selects "HotEditions" ({ cls := "HotEditions", name := "frame", desc := "(II)I" } : MethodName) ({ cls := "HotEditions", name := "frame", desc := "(II)I" } : MethodName)) ∈ pmWs := pmWs_3 (List.mem_of_getElem? (i := 78) rfl) rfl
theorem w_559 : (Jvm.Cond.code ({ cls := "HotEditions", name := "frame", desc := "(II)I" } : MethodName) prog_1_method_18_code (4 : Nat) (Option.some FieldType.int)) ∈ pmWs := pmWs_3 (List.mem_of_getElem? (i := 79) rfl) rfl
theorem w_560 : (Jvm.Cond.methodLink "HotEditions" (174 : Nat) ({ cls := "HotEditions", name := "findFrame", desc := "(II)LHotEditions$Frame;" } : MethodName)) ∈ pmWs := pmWs_3 (List.mem_of_getElem? (i := 80) rfl) rfl
theorem w_562 : (Jvm.Cond.instanceMethod ({ cls := "HotEditions", name := "findFrame", desc := "(II)LHotEditions$Frame;" } : MethodName)) ∈ pmWs := pmWs_3 (List.mem_of_getElem? (i := 82) rfl) rfl
theorem w_563 : (Jvm.Cond.code ({ cls := "HotEditions", name := "findFrame", desc := "(II)LHotEditions$Frame;" } : MethodName) prog_1_method_27_code (3 : Nat) (Option.some (FieldType.object "HotEditions$Frame"))) ∈ pmWs := pmWs_3 (List.mem_of_getElem? (i := 83) rfl) rfl
theorem w_564 : (Jvm.Cond.methodLink "HotEditionsLaw" (88 : Nat) ({ cls := "HotEditions", name := "result", desc := "(I)I" } : MethodName)) ∈ pmWs := pmWs_3 (List.mem_of_getElem? (i := 84) rfl) rfl
theorem w_565 : (Jvm.Cond.instanceMethod ({ cls := "HotEditions", name := "result", desc := "(I)I" } : MethodName)) ∈ pmWs := pmWs_3 (List.mem_of_getElem? (i := 85) rfl) rfl
theorem w_566 : (Jvm.Cond.selects "HotEditions" ({ cls := "HotEditions", name := "result", desc := "(I)I" } : MethodName) ({ cls := "HotEditions", name := "result", desc := "(I)I" } : MethodName)) ∈ pmWs := pmWs_3 (List.mem_of_getElem? (i := 86) rfl) rfl
theorem w_567 : (Jvm.Cond.code ({ cls := "HotEditions", name := "result", desc := "(I)I" } : MethodName) prog_1_method_19_code (2 : Nat) (Option.some FieldType.int)) ∈ pmWs := pmWs_3 (List.mem_of_getElem? (i := 87) rfl) rfl
theorem w_568 : (Jvm.Cond.methodLink "HotEditionsLaw" (92 : Nat) ({ cls := "HotEditions", name := "edition", desc := "(I)I" } : MethodName)) ∈ pmWs := pmWs_3 (List.mem_of_getElem? (i := 88) rfl) rfl
theorem w_569 : (Jvm.Cond.instanceMethod ({ cls := "HotEditions", name := "edition", desc := "(I)I" } : MethodName)) ∈ pmWs := pmWs_3 (List.mem_of_getElem? (i := 89) rfl) rfl
theorem w_570 : (Jvm.Cond.selects "HotEditions" ({ cls := "HotEditions", name := "edition", desc := "(I)I" } : MethodName) ({ cls := "HotEditions", name := "edition", desc := "(I)I" } : MethodName)) ∈ pmWs := pmWs_3 (List.mem_of_getElem? (i := 90) rfl) rfl
theorem w_571 : (Jvm.Cond.code ({ cls := "HotEditions", name := "edition", desc := "(I)I" } : MethodName) prog_1_method_20_code (3 : Nat) (Option.some FieldType.int)) ∈ pmWs := pmWs_3 (List.mem_of_getElem? (i := 91) rfl) rfl
theorem w_572 : (Jvm.Cond.methodLink "HotEditionsLaw" (96 : Nat) ({ cls := "HotEditions", name := "kept", desc := "(I)I" } : MethodName)) ∈ pmWs := pmWs_3 (List.mem_of_getElem? (i := 92) rfl) rfl
theorem w_573 : (Jvm.Cond.instanceMethod ({ cls := "HotEditions", name := "kept", desc := "(I)I" } : MethodName)) ∈ pmWs := pmWs_3 (List.mem_of_getElem? (i := 93) rfl) rfl
theorem w_574 : (Jvm.Cond.selects "HotEditions" ({ cls := "HotEditions", name := "kept", desc := "(I)I" } : MethodName) ({ cls := "HotEditions", name := "kept", desc := "(I)I" } : MethodName)) ∈ pmWs := pmWs_3 (List.mem_of_getElem? (i := 94) rfl) rfl
theorem w_575 : (Jvm.Cond.code ({ cls := "HotEditions", name := "kept", desc := "(I)I" } : MethodName) prog_1_method_21_code (7 : Nat) (Option.some FieldType.int)) ∈ pmWs := pmWs_3 (List.mem_of_getElem? (i := 95) rfl) rfl
theorem w_576 : (Jvm.Cond.methodLink "HotEditions" (190 : Nat) ({ cls := "HotEditions", name := "isFirstOfItsEdition", desc := "(IILHotEditions$Frame;)Z" } : MethodName)) ∈ pmWs := pmWs_3 (List.mem_of_getElem? (i := 96) rfl) rfl
theorem w_578 : (Jvm.Cond.instanceMethod ({ cls := "HotEditions", name := "isFirstOfItsEdition", desc := "(IILHotEditions$Frame;)Z" } : MethodName)) ∈ pmWs := pmWs_3 (List.mem_of_getElem? (i := 98) rfl) rfl
theorem w_579 : (Jvm.Cond.code ({ cls := "HotEditions", name := "isFirstOfItsEdition", desc := "(IILHotEditions$Frame;)Z" } : MethodName) prog_1_method_28_code (6 : Nat) (Option.some FieldType.boolean)) ∈ pmWs := pmWs_3 (List.mem_of_getElem? (i := 99) rfl) rfl
theorem w_580 : (Jvm.Cond.classLink "HotEditionsLaw" (10 : Nat) "HotEditionsModel") ∈ pmWs := pmWs_3 (List.mem_of_getElem? (i := 100) rfl) rfl
theorem w_581 : (Jvm.Cond.instantiable "HotEditionsModel" (19 : Nat)) ∈ pmWs := pmWs_3 (List.mem_of_getElem? (i := 101) rfl) rfl
theorem w_582 : (Jvm.Cond.methodLink "HotEditionsLaw" (12 : Nat) ({ cls := "HotEditionsModel", name := "<init>", desc := "()V" } : MethodName)) ∈ pmWs := pmWs_3 (List.mem_of_getElem? (i := 102) rfl) rfl
theorem w_583 : (Jvm.Cond.instanceMethod ({ cls := "HotEditionsModel", name := "<init>", desc := "()V" } : MethodName)) ∈ pmWs := pmWs_3 (List.mem_of_getElem? (i := 103) rfl) rfl
theorem w_584 : (Jvm.Cond.code ({ cls := "HotEditionsModel", name := "<init>", desc := "()V" } : MethodName) prog_14_method_1_code (1 : Nat) (Option.none : Option FieldType)) ∈ pmWs := pmWs_3 (List.mem_of_getElem? (i := 104) rfl) rfl
theorem w_585 : (Jvm.Cond.methodLink "HotEditionsModel" (1 : Nat) ({ cls := "java/lang/Object", name := "<init>", desc := "()V" } : MethodName)) ∈ pmWs := pmWs_3 (List.mem_of_getElem? (i := 105) rfl) rfl
theorem w_586 : (Jvm.Cond.methodLink "HotEditionsModel" (66 : Nat) ({ cls := "HotEditionsModel", name := "blank", desc := "()V" } : MethodName)) ∈ pmWs := pmWs_3 (List.mem_of_getElem? (i := 106) rfl) rfl
theorem w_587 : (Jvm.Cond.instanceMethod ({ cls := "HotEditionsModel", name := "blank", desc := "()V" } : MethodName)) ∈ pmWs := pmWs_3 (List.mem_of_getElem? (i := 107) rfl) rfl
theorem w_588 : (Jvm.Cond.selects "HotEditionsModel" ({ cls := "HotEditionsModel", name := "blank", desc := "()V" } : MethodName) ({ cls := "HotEditionsModel", name := "blank", desc := "()V" } : MethodName)) ∈ pmWs := pmWs_3 (List.mem_of_getElem? (i := 108) rfl) rfl
theorem w_589 : (Jvm.Cond.code ({ cls := "HotEditionsModel", name := "blank", desc := "()V" } : MethodName) prog_14_method_6_code (2 : Nat) (Option.none : Option FieldType)) ∈ pmWs := pmWs_3 (List.mem_of_getElem? (i := 109) rfl) rfl
theorem w_590 : (Jvm.Cond.methodLink "HotEditionsModel" (73 : Nat) ({ cls := "HotEditionsModel", name := "put", desc := "(III)V" } : MethodName)) ∈ pmWs := pmWs_3 (List.mem_of_getElem? (i := 110) rfl) rfl
theorem w_592 : (Jvm.Cond.instanceMethod ({ cls := "HotEditionsModel", name := "put", desc := "(III)V" } : MethodName)) ∈ pmWs := pmWs_3 (List.mem_of_getElem? (i := 112) rfl) rfl
theorem w_593 : (Jvm.Cond.code ({ cls := "HotEditionsModel", name := "put", desc := "(III)V" } : MethodName) prog_14_method_3_code (4 : Nat) (Option.none : Option FieldType)) ∈ pmWs := pmWs_3 (List.mem_of_getElem? (i := 113) rfl) rfl
theorem w_594 : (Jvm.Cond.fieldLink "HotEditionsModel" (7 : Nat) "HotEditionsModel" "cell" "[I") ∈ pmWs := pmWs_3 (List.mem_of_getElem? (i := 114) rfl) rfl
theorem w_595 : (Jvm.Cond.fieldLink "HotEditionsModel" (13 : Nat) "HotEditionsModel" "chosen" "I") ∈ pmWs := pmWs_3 (List.mem_of_getElem? (i := 115) rfl) rfl
theorem w_596 : (Jvm.Cond.fieldLink "HotEditionsModel" (17 : Nat) "HotEditionsModel" "current" "[I") ∈ pmWs := pmWs_3 (List.mem_of_getElem? (i := 116) rfl) rfl
theorem w_597 : (Jvm.Cond.fieldLink "HotEditionsModel" (20 : Nat) "HotEditionsModel" "numbers" "[I") ∈ pmWs := pmWs_3 (List.mem_of_getElem? (i := 117) rfl) rfl
theorem w_598 : (Jvm.Cond.fieldLink "HotEditionsModel" (23 : Nat) "HotEditionsModel" "numberOf" "[I") ∈ pmWs := pmWs_3 (List.mem_of_getElem? (i := 118) rfl) rfl
theorem w_599 : (Jvm.Cond.fieldLink "HotEditionsModel" (26 : Nat) "HotEditionsModel" "classOf" "[I") ∈ pmWs := pmWs_3 (List.mem_of_getElem? (i := 119) rfl) rfl
theorem w_600 : (Jvm.Cond.fieldLink "HotEditionsModel" (29 : Nat) "HotEditionsModel" "taken" "[Z") ∈ pmWs := pmWs_3 (List.mem_of_getElem? (i := 120) rfl) rfl
theorem w_601 : (Jvm.Cond.fieldLink "HotEditionsModel" (33 : Nat) "HotEditionsModel" "kind" "[I") ∈ pmWs := pmWs_3 (List.mem_of_getElem? (i := 121) rfl) rfl
theorem w_602 : (Jvm.Cond.fieldLink "HotEditionsModel" (36 : Nat) "HotEditionsModel" "value" "[I") ∈ pmWs := pmWs_3 (List.mem_of_getElem? (i := 122) rfl) rfl
theorem w_603 : (Jvm.Cond.fieldLink "HotEditionsModel" (39 : Nat) "HotEditionsModel" "only" "[I") ∈ pmWs := pmWs_3 (List.mem_of_getElem? (i := 123) rfl) rfl
theorem w_604 : (Jvm.Cond.fieldLink "HotEditionsModel" (42 : Nat) "HotEditionsModel" "repeats" "[Z") ∈ pmWs := pmWs_3 (List.mem_of_getElem? (i := 124) rfl) rfl
theorem w_605 : (Jvm.Cond.fieldLink "HotEditionsModel" (140 : Nat) "HotEditionsModel" "batch" "I") ∈ pmWs := pmWs_3 (List.mem_of_getElem? (i := 125) rfl) rfl
theorem w_606 : (Jvm.Cond.fieldLink "HotEditionsModel" (45 : Nat) "HotEditionsModel" "meant" "[I") ∈ pmWs := pmWs_3 (List.mem_of_getElem? (i := 126) rfl) rfl
theorem w_607 : (Jvm.Cond.fieldLink "HotEditionsModel" (48 : Nat) "HotEditionsModel" "depth" "[I") ∈ pmWs := pmWs_3 (List.mem_of_getElem? (i := 127) rfl) rfl
theorem w_608 : (Jvm.Cond.fieldLink "HotEditionsModel" (51 : Nat) "HotEditionsModel" "frameRow" "[I") ∈ pmWs := pmWs_3 (List.mem_of_getElem? (i := 128) rfl) rfl
theorem w_609 : (Jvm.Cond.fieldLink "HotEditionsModel" (54 : Nat) "HotEditionsModel" "frameMethod" "[I") ∈ pmWs := pmWs_3 (List.mem_of_getElem? (i := 129) rfl) rfl
theorem w_610 : (Jvm.Cond.fieldLink "HotEditionsModel" (57 : Nat) "HotEditionsModel" "place" "[I") ∈ pmWs := pmWs_3 (List.mem_of_getElem? (i := 130) rfl) rfl
theorem w_611 : (Jvm.Cond.fieldLink "HotEditionsModel" (60 : Nat) "HotEditionsModel" "sum" "[I") ∈ pmWs := pmWs_3 (List.mem_of_getElem? (i := 131) rfl) rfl
theorem w_612 : (Jvm.Cond.fieldLink "HotEditionsModel" (63 : Nat) "HotEditionsModel" "results" "[I") ∈ pmWs := pmWs_3 (List.mem_of_getElem? (i := 132) rfl) rfl
theorem w_613 : (Jvm.Cond.laysFinal "HotEditionsModel" "HotEditionsModel" "cell" "[I") ∈ pmWs := pmWs_3 (List.mem_of_getElem? (i := 133) rfl) rfl
theorem w_615 : (Jvm.Cond.lays "HotEditionsModel" "HotEditionsModel" "chosen" "I") ∈ pmWs := pmWs_3 (List.mem_of_getElem? (i := 135) rfl) rfl
theorem w_617 : (Jvm.Cond.laysFinal "HotEditionsModel" "HotEditionsModel" "current" "[I") ∈ pmWs := pmWs_3 (List.mem_of_getElem? (i := 137) rfl) rfl
theorem w_619 : (Jvm.Cond.laysFinal "HotEditionsModel" "HotEditionsModel" "numbers" "[I") ∈ pmWs := pmWs_3 (List.mem_of_getElem? (i := 139) rfl) rfl
theorem w_621 : (Jvm.Cond.laysFinal "HotEditionsModel" "HotEditionsModel" "numberOf" "[I") ∈ pmWs := pmWs_3 (List.mem_of_getElem? (i := 141) rfl) rfl
theorem w_623 : (Jvm.Cond.laysFinal "HotEditionsModel" "HotEditionsModel" "classOf" "[I") ∈ pmWs := pmWs_3 (List.mem_of_getElem? (i := 143) rfl) rfl
theorem w_625 : (Jvm.Cond.laysFinal "HotEditionsModel" "HotEditionsModel" "taken" "[Z") ∈ pmWs := pmWs_3 (List.mem_of_getElem? (i := 145) rfl) rfl
theorem w_627 : (Jvm.Cond.laysFinal "HotEditionsModel" "HotEditionsModel" "kind" "[I") ∈ pmWs := pmWs_3 (List.mem_of_getElem? (i := 147) rfl) rfl
theorem w_629 : (Jvm.Cond.laysFinal "HotEditionsModel" "HotEditionsModel" "value" "[I") ∈ pmWs := pmWs_3 (List.mem_of_getElem? (i := 149) rfl) rfl
theorem w_631 : (Jvm.Cond.laysFinal "HotEditionsModel" "HotEditionsModel" "only" "[I") ∈ pmWs := pmWs_3 (List.mem_of_getElem? (i := 151) rfl) rfl
theorem w_633 : (Jvm.Cond.laysFinal "HotEditionsModel" "HotEditionsModel" "repeats" "[Z") ∈ pmWs := pmWs_3 (List.mem_of_getElem? (i := 153) rfl) rfl
theorem w_635 : (Jvm.Cond.lays "HotEditionsModel" "HotEditionsModel" "batch" "I") ∈ pmWs := pmWs_3 (List.mem_of_getElem? (i := 155) rfl) rfl
theorem w_637 : (Jvm.Cond.laysFinal "HotEditionsModel" "HotEditionsModel" "meant" "[I") ∈ pmWs := pmWs_3 (List.mem_of_getElem? (i := 157) rfl) rfl
theorem w_639 : (Jvm.Cond.laysFinal "HotEditionsModel" "HotEditionsModel" "depth" "[I") ∈ pmWs := pmWs_3 (List.mem_of_getElem? (i := 159) rfl) rfl
theorem w_641 : (Jvm.Cond.laysFinal "HotEditionsModel" "HotEditionsModel" "frameRow" "[I") ∈ pmWs := pmWs_3 (List.mem_of_getElem? (i := 161) rfl) rfl
theorem w_643 : (Jvm.Cond.laysFinal "HotEditionsModel" "HotEditionsModel" "frameMethod" "[I") ∈ pmWs := pmWs_3 (List.mem_of_getElem? (i := 163) rfl) rfl
theorem w_645 : (Jvm.Cond.laysFinal "HotEditionsModel" "HotEditionsModel" "place" "[I") ∈ pmWs := pmWs_3 (List.mem_of_getElem? (i := 165) rfl) rfl
theorem w_647 : (Jvm.Cond.laysFinal "HotEditionsModel" "HotEditionsModel" "sum" "[I") ∈ pmWs := pmWs_3 (List.mem_of_getElem? (i := 167) rfl) rfl
theorem w_649 : (Jvm.Cond.laysFinal "HotEditionsModel" "HotEditionsModel" "results" "[I") ∈ pmWs := pmWs_3 (List.mem_of_getElem? (i := 169) rfl) rfl
theorem w_652 : (Jvm.Cond.arrayClass FieldType.boolean) ∈ pmWs := pmWs_3 (List.mem_of_getElem? (i := 172) rfl) rfl
theorem w_653 : (Jvm.Cond.methodLink "HotEditionsLaw" (16 : Nat) ({ cls := "HotEditionsModel", name := "blank", desc := "()V" } : MethodName)) ∈ pmWs := pmWs_3 (List.mem_of_getElem? (i := 173) rfl) rfl
theorem w_654 : (Jvm.Cond.methodLink "HotEditionsLaw" (21 : Nat) ({ cls := "HotEditionsModel", name := "copy", desc := "(I)Z" } : MethodName)) ∈ pmWs := pmWs_3 (List.mem_of_getElem? (i := 174) rfl) rfl
theorem w_655 : (Jvm.Cond.instanceMethod ({ cls := "HotEditionsModel", name := "copy", desc := "(I)Z" } : MethodName)) ∈ pmWs := pmWs_3 (List.mem_of_getElem? (i := 175) rfl) rfl
theorem w_656 : (Jvm.Cond.selects "HotEditionsModel" ({ cls := "HotEditionsModel", name := "copy", desc := "(I)Z" } : MethodName) ({ cls := "HotEditionsModel", name := "copy", desc := "(I)Z" } : MethodName)) ∈ pmWs := pmWs_3 (List.mem_of_getElem? (i := 176) rfl) rfl
theorem w_657 : (Jvm.Cond.code ({ cls := "HotEditionsModel", name := "copy", desc := "(I)Z" } : MethodName) prog_14_method_7_code (2 : Nat) (Option.some FieldType.boolean)) ∈ pmWs := pmWs_3 (List.mem_of_getElem? (i := 177) rfl) rfl
theorem w_658 : (Jvm.Cond.methodLink "HotEditionsModel" (77 : Nat) ({ cls := "HotEditionsModel", name := "loaded", desc := "(I)Z" } : MethodName)) ∈ pmWs := pmWs_3 (List.mem_of_getElem? (i := 178) rfl) rfl
theorem w_660 : (Jvm.Cond.instanceMethod ({ cls := "HotEditionsModel", name := "loaded", desc := "(I)Z" } : MethodName)) ∈ pmWs := pmWs_3 (List.mem_of_getElem? (i := 180) rfl) rfl
theorem w_661 : (Jvm.Cond.code ({ cls := "HotEditionsModel", name := "loaded", desc := "(I)Z" } : MethodName) prog_14_method_5_code (2 : Nat) (Option.some FieldType.boolean)) ∈ pmWs := pmWs_3 (List.mem_of_getElem? (i := 181) rfl) rfl
theorem w_662 : (Jvm.Cond.methodLink "HotEditionsModel" (81 : Nat) ({ cls := "HotEditionsModel", name := "transcribe", desc := "(II)V" } : MethodName)) ∈ pmWs := pmWs_3 (List.mem_of_getElem? (i := 182) rfl) rfl
theorem w_664 : (Jvm.Cond.instanceMethod ({ cls := "HotEditionsModel", name := "transcribe", desc := "(II)V" } : MethodName)) ∈ pmWs := pmWs_3 (List.mem_of_getElem? (i := 184) rfl) rfl
theorem w_665 : (Jvm.Cond.code ({ cls := "HotEditionsModel", name := "transcribe", desc := "(II)V" } : MethodName) prog_14_method_4_code (4 : Nat) (Option.none : Option FieldType)) ∈ pmWs := pmWs_3 (List.mem_of_getElem? (i := 185) rfl) rfl
theorem w_666 : (Jvm.Cond.methodLink "HotEditionsModel" (69 : Nat) ({ cls := "HotEditionsModel", name := "get", desc := "(II)I" } : MethodName)) ∈ pmWs := pmWs_3 (List.mem_of_getElem? (i := 186) rfl) rfl
theorem w_668 : (Jvm.Cond.instanceMethod ({ cls := "HotEditionsModel", name := "get", desc := "(II)I" } : MethodName)) ∈ pmWs := pmWs_3 (List.mem_of_getElem? (i := 188) rfl) rfl
theorem w_669 : (Jvm.Cond.code ({ cls := "HotEditionsModel", name := "get", desc := "(II)I" } : MethodName) prog_14_method_2_code (3 : Nat) (Option.some FieldType.int)) ∈ pmWs := pmWs_3 (List.mem_of_getElem? (i := 189) rfl) rfl
theorem w_670 : (Jvm.Cond.methodLink "HotEditionsLaw" (26 : Nat) ({ cls := "HotEditionsModel", name := "set", desc := "(II)Z" } : MethodName)) ∈ pmWs := pmWs_3 (List.mem_of_getElem? (i := 190) rfl) rfl
theorem w_671 : (Jvm.Cond.instanceMethod ({ cls := "HotEditionsModel", name := "set", desc := "(II)Z" } : MethodName)) ∈ pmWs := pmWs_3 (List.mem_of_getElem? (i := 191) rfl) rfl
theorem w_672 : (Jvm.Cond.selects "HotEditionsModel" ({ cls := "HotEditionsModel", name := "set", desc := "(II)Z" } : MethodName) ({ cls := "HotEditionsModel", name := "set", desc := "(II)Z" } : MethodName)) ∈ pmWs := pmWs_3 (List.mem_of_getElem? (i := 192) rfl) rfl
theorem w_673 : (Jvm.Cond.code ({ cls := "HotEditionsModel", name := "set", desc := "(II)Z" } : MethodName) prog_14_method_8_code (3 : Nat) (Option.some FieldType.boolean)) ∈ pmWs := pmWs_3 (List.mem_of_getElem? (i := 193) rfl) rfl
theorem w_674 : (Jvm.Cond.methodLink "HotEditionsLaw" (30 : Nat) ({ cls := "HotEditionsModel", name := "implement", desc := "(I)Z" } : MethodName)) ∈ pmWs := pmWs_3 (List.mem_of_getElem? (i := 194) rfl) rfl
theorem w_675 : (Jvm.Cond.instanceMethod ({ cls := "HotEditionsModel", name := "implement", desc := "(I)Z" } : MethodName)) ∈ pmWs := pmWs_3 (List.mem_of_getElem? (i := 195) rfl) rfl
theorem w_676 : (Jvm.Cond.selects "HotEditionsModel" ({ cls := "HotEditionsModel", name := "implement", desc := "(I)Z" } : MethodName) ({ cls := "HotEditionsModel", name := "implement", desc := "(I)Z" } : MethodName)) ∈ pmWs := pmWs_3 (List.mem_of_getElem? (i := 196) rfl) rfl
theorem w_677 : (Jvm.Cond.code ({ cls := "HotEditionsModel", name := "implement", desc := "(I)Z" } : MethodName) prog_14_method_9_code (3 : Nat) (Option.some FieldType.boolean)) ∈ pmWs := pmWs_3 (List.mem_of_getElem? (i := 197) rfl) rfl
theorem w_678 : (Jvm.Cond.methodLink "HotEditionsLaw" (35 : Nat) ({ cls := "HotEditionsModel", name := "field", desc := "(III)Z" } : MethodName)) ∈ pmWs := pmWs_3 (List.mem_of_getElem? (i := 198) rfl) rfl
theorem w_679 : (Jvm.Cond.instanceMethod ({ cls := "HotEditionsModel", name := "field", desc := "(III)Z" } : MethodName)) ∈ pmWs := pmWs_3 (List.mem_of_getElem? (i := 199) rfl) rfl
theorem w_680 : (Jvm.Cond.selects "HotEditionsModel" ({ cls := "HotEditionsModel", name := "field", desc := "(III)Z" } : MethodName) ({ cls := "HotEditionsModel", name := "field", desc := "(III)Z" } : MethodName)) ∈ pmWs := pmWs_3 (List.mem_of_getElem? (i := 200) rfl) rfl
theorem w_681 : (Jvm.Cond.code ({ cls := "HotEditionsModel", name := "field", desc := "(III)Z" } : MethodName) prog_14_method_10_code (5 : Nat) (Option.some FieldType.boolean)) ∈ pmWs := pmWs_3 (List.mem_of_getElem? (i := 201) rfl) rfl
theorem w_682 : (Jvm.Cond.methodLink "HotEditionsLaw" (39 : Nat) ({ cls := "HotEditionsModel", name := "method", desc := "(II)Z" } : MethodName)) ∈ pmWs := pmWs_3 (List.mem_of_getElem? (i := 202) rfl) rfl
theorem w_683 : (Jvm.Cond.instanceMethod ({ cls := "HotEditionsModel", name := "method", desc := "(II)Z" } : MethodName)) ∈ pmWs := pmWs_3 (List.mem_of_getElem? (i := 203) rfl) rfl
theorem w_684 : (Jvm.Cond.selects "HotEditionsModel" ({ cls := "HotEditionsModel", name := "method", desc := "(II)Z" } : MethodName) ({ cls := "HotEditionsModel", name := "method", desc := "(II)Z" } : MethodName)) ∈ pmWs := pmWs_3 (List.mem_of_getElem? (i := 204) rfl) rfl
theorem w_685 : (Jvm.Cond.code ({ cls := "HotEditionsModel", name := "method", desc := "(II)Z" } : MethodName) prog_14_method_12_code (4 : Nat) (Option.some FieldType.boolean)) ∈ pmWs := pmWs_3 (List.mem_of_getElem? (i := 205) rfl) rfl
theorem w_686 : (Jvm.Cond.methodLink "HotEditionsModel" (85 : Nat) ({ cls := "HotEditionsModel", name := "methodAt", desc := "(I)I" } : MethodName)) ∈ pmWs := pmWs_3 (List.mem_of_getElem? (i := 206) rfl) rfl
theorem w_687 : (Jvm.Cond.static ({ cls := "HotEditionsModel", name := "methodAt", desc := "(I)I" } : MethodName)) ∈ pmWs := pmWs_3 (List.mem_of_getElem? (i := 207) rfl) rfl
theorem w_688 : (Jvm.Cond.code ({ cls := "HotEditionsModel", name := "methodAt", desc := "(I)I" } : MethodName) prog_14_method_11_code (1 : Nat) (Option.some FieldType.int)) ∈ pmWs := pmWs_3 (List.mem_of_getElem? (i := 208) rfl) rfl
theorem w_689 : (Jvm.Cond.methodLink "HotEditionsLaw" (43 : Nat) ({ cls := "HotEditionsModel", name := "choose", desc := "(I)Z" } : MethodName)) ∈ pmWs := pmWs_3 (List.mem_of_getElem? (i := 209) rfl) rfl
theorem w_690 : (Jvm.Cond.instanceMethod ({ cls := "HotEditionsModel", name := "choose", desc := "(I)Z" } : MethodName)) ∈ pmWs := pmWs_3 (List.mem_of_getElem? (i := 210) rfl) rfl
theorem w_691 : (Jvm.Cond.selects "HotEditionsModel" ({ cls := "HotEditionsModel", name := "choose", desc := "(I)Z" } : MethodName) ({ cls := "HotEditionsModel", name := "choose", desc := "(I)Z" } : MethodName)) ∈ pmWs := pmWs_3 (List.mem_of_getElem? (i := 211) rfl) rfl
theorem w_692 : (Jvm.Cond.code ({ cls := "HotEditionsModel", name := "choose", desc := "(I)Z" } : MethodName) prog_14_method_13_code (2 : Nat) (Option.some FieldType.boolean)) ∈ pmWs := pmWs_3 (List.mem_of_getElem? (i := 212) rfl) rfl
theorem w_693 : (Jvm.Cond.methodLink "HotEditionsLaw" (47 : Nat) ({ cls := "HotEditionsModel", name := "code", desc := "(III)Z" } : MethodName)) ∈ pmWs := pmWs_3 (List.mem_of_getElem? (i := 213) rfl) rfl
theorem w_694 : (Jvm.Cond.instanceMethod ({ cls := "HotEditionsModel", name := "code", desc := "(III)Z" } : MethodName)) ∈ pmWs := pmWs_3 (List.mem_of_getElem? (i := 214) rfl) rfl
theorem w_695 : (Jvm.Cond.selects "HotEditionsModel" ({ cls := "HotEditionsModel", name := "code", desc := "(III)Z" } : MethodName) ({ cls := "HotEditionsModel", name := "code", desc := "(III)Z" } : MethodName)) ∈ pmWs := pmWs_3 (List.mem_of_getElem? (i := 215) rfl) rfl
theorem w_696 : (Jvm.Cond.code ({ cls := "HotEditionsModel", name := "code", desc := "(III)Z" } : MethodName) prog_14_method_14_code (6 : Nat) (Option.some FieldType.boolean)) ∈ pmWs := pmWs_3 (List.mem_of_getElem? (i := 216) rfl) rfl
theorem w_697 : (Jvm.Cond.methodLink "HotEditionsLaw" (57 : Nat) ({ cls := "HotEditionsModel", name := "transformer", desc := "(IIIZ)I" } : MethodName)) ∈ pmWs := pmWs_3 (List.mem_of_getElem? (i := 217) rfl) rfl
theorem w_698 : (Jvm.Cond.instanceMethod ({ cls := "HotEditionsModel", name := "transformer", desc := "(IIIZ)I" } : MethodName)) ∈ pmWs := pmWs_3 (List.mem_of_getElem? (i := 218) rfl) rfl
theorem w_699 : (Jvm.Cond.selects "HotEditionsModel" ({ cls := "HotEditionsModel", name := "transformer", desc := "(IIIZ)I" } : MethodName) ({ cls := "HotEditionsModel", name := "transformer", desc := "(IIIZ)I" } : MethodName)) ∈ pmWs := pmWs_3 (List.mem_of_getElem? (i := 219) rfl) rfl
theorem w_700 : (Jvm.Cond.code ({ cls := "HotEditionsModel", name := "transformer", desc := "(IIIZ)I" } : MethodName) prog_14_method_15_code (6 : Nat) (Option.some FieldType.int)) ∈ pmWs := pmWs_3 (List.mem_of_getElem? (i := 220) rfl) rfl
theorem w_701 : (Jvm.Cond.methodLink "HotEditionsLaw" (61 : Nat) ({ cls := "HotEditionsModel", name := "remove", desc := "(I)Z" } : MethodName)) ∈ pmWs := pmWs_3 (List.mem_of_getElem? (i := 221) rfl) rfl
theorem w_702 : (Jvm.Cond.instanceMethod ({ cls := "HotEditionsModel", name := "remove", desc := "(I)Z" } : MethodName)) ∈ pmWs := pmWs_3 (List.mem_of_getElem? (i := 222) rfl) rfl
theorem w_703 : (Jvm.Cond.selects "HotEditionsModel" ({ cls := "HotEditionsModel", name := "remove", desc := "(I)Z" } : MethodName) ({ cls := "HotEditionsModel", name := "remove", desc := "(I)Z" } : MethodName)) ∈ pmWs := pmWs_3 (List.mem_of_getElem? (i := 223) rfl) rfl
theorem w_704 : (Jvm.Cond.code ({ cls := "HotEditionsModel", name := "remove", desc := "(I)Z" } : MethodName) prog_14_method_16_code (2 : Nat) (Option.some FieldType.boolean)) ∈ pmWs := pmWs_3 (List.mem_of_getElem? (i := 224) rfl) rfl
theorem w_705 : (Jvm.Cond.methodLink "HotEditionsLaw" (52 : Nat) ({ cls := "HotEditionsModel", name := "load", desc := "()I" } : MethodName)) ∈ pmWs := pmWs_3 (List.mem_of_getElem? (i := 225) rfl) rfl
theorem w_706 : (Jvm.Cond.instanceMethod ({ cls := "HotEditionsModel", name := "load", desc := "()I" } : MethodName)) ∈ pmWs := pmWs_3 (List.mem_of_getElem? (i := 226) rfl) rfl
theorem w_707 : (Jvm.Cond.selects "HotEditionsModel" ({ cls := "HotEditionsModel", name := "load", desc := "()I" } : MethodName) ({ cls := "HotEditionsModel", name := "load", desc := "()I" } : MethodName)) ∈ pmWs := pmWs_3 (List.mem_of_getElem? (i := 227) rfl) rfl
theorem w_708 : (Jvm.Cond.code ({ cls := "HotEditionsModel", name := "load", desc := "()I" } : MethodName) prog_14_method_34_code (3 : Nat) (Option.some FieldType.int)) ∈ pmWs := pmWs_3 (List.mem_of_getElem? (i := 228) rfl) rfl
theorem w_709 : (Jvm.Cond.methodLink "HotEditionsModel" (134 : Nat) ({ cls := "HotEditionsModel", name := "treat", desc := "(III)V" } : MethodName)) ∈ pmWs := pmWs_3 (List.mem_of_getElem? (i := 229) rfl) rfl
theorem w_711 : (Jvm.Cond.instanceMethod ({ cls := "HotEditionsModel", name := "treat", desc := "(III)V" } : MethodName)) ∈ pmWs := pmWs_3 (List.mem_of_getElem? (i := 231) rfl) rfl
theorem w_712 : (Jvm.Cond.code ({ cls := "HotEditionsModel", name := "treat", desc := "(III)V" } : MethodName) prog_14_method_20_code (4 : Nat) (Option.none : Option FieldType)) ∈ pmWs := pmWs_3 (List.mem_of_getElem? (i := 232) rfl) rfl
theorem w_713 : (Jvm.Cond.methodLink "HotEditionsModel" (95 : Nat) ({ cls := "HotEditionsModel", name := "changes", desc := "(IIZ)V" } : MethodName)) ∈ pmWs := pmWs_3 (List.mem_of_getElem? (i := 233) rfl) rfl
theorem w_715 : (Jvm.Cond.instanceMethod ({ cls := "HotEditionsModel", name := "changes", desc := "(IIZ)V" } : MethodName)) ∈ pmWs := pmWs_3 (List.mem_of_getElem? (i := 235) rfl) rfl
theorem w_716 : (Jvm.Cond.code ({ cls := "HotEditionsModel", name := "changes", desc := "(IIZ)V" } : MethodName) prog_14_method_19_code (5 : Nat) (Option.none : Option FieldType)) ∈ pmWs := pmWs_3 (List.mem_of_getElem? (i := 236) rfl) rfl
theorem w_717 : (Jvm.Cond.methodLink "HotEditionsModel" (92 : Nat) ({ cls := "HotEditionsModel", name := "change", desc := "(II)V" } : MethodName)) ∈ pmWs := pmWs_3 (List.mem_of_getElem? (i := 237) rfl) rfl
theorem w_719 : (Jvm.Cond.instanceMethod ({ cls := "HotEditionsModel", name := "change", desc := "(II)V" } : MethodName)) ∈ pmWs := pmWs_3 (List.mem_of_getElem? (i := 239) rfl) rfl
theorem w_720 : (Jvm.Cond.code ({ cls := "HotEditionsModel", name := "change", desc := "(II)V" } : MethodName) prog_14_method_18_code (8 : Nat) (Option.none : Option FieldType)) ∈ pmWs := pmWs_4 (List.mem_of_getElem? (i := 0) rfl) rfl
theorem w_721 : (Jvm.Cond.methodLink "HotEditionsModel" (89 : Nat) ({ cls := "HotEditionsModel", name := "find", desc := "(II)I" } : MethodName)) ∈ pmWs := pmWs_4 (List.mem_of_getElem? (i := 1) rfl) rfl
theorem w_723 : (Jvm.Cond.instanceMethod ({ cls := "HotEditionsModel", name := "find", desc := "(II)I" } : MethodName)) ∈ pmWs := pmWs_4 (List.mem_of_getElem? (i := 3) rfl) rfl
theorem w_724 : (Jvm.Cond.code ({ cls := "HotEditionsModel", name := "find", desc := "(II)I" } : MethodName) prog_14_method_17_code (4 : Nat) (Option.some FieldType.int)) ∈ pmWs := pmWs_4 (List.mem_of_getElem? (i := 4) rfl) rfl
theorem w_725 : (Jvm.Cond.methodLink "HotEditionsModel" (112 : Nat) ({ cls := "HotEditionsModel", name := "plainRules", desc := "(I)I" } : MethodName)) ∈ pmWs := pmWs_4 (List.mem_of_getElem? (i := 5) rfl) rfl
theorem w_727 : (Jvm.Cond.instanceMethod ({ cls := "HotEditionsModel", name := "plainRules", desc := "(I)I" } : MethodName)) ∈ pmWs := pmWs_4 (List.mem_of_getElem? (i := 7) rfl) rfl
theorem w_728 : (Jvm.Cond.code ({ cls := "HotEditionsModel", name := "plainRules", desc := "(I)I" } : MethodName) prog_14_method_25_code (4 : Nat) (Option.some FieldType.int)) ∈ pmWs := pmWs_4 (List.mem_of_getElem? (i := 8) rfl) rfl
theorem w_729 : (Jvm.Cond.methodLink "HotEditionsModel" (99 : Nat) ({ cls := "HotEditionsModel", name := "twice", desc := "(IIII)Z" } : MethodName)) ∈ pmWs := pmWs_4 (List.mem_of_getElem? (i := 9) rfl) rfl
theorem w_731 : (Jvm.Cond.instanceMethod ({ cls := "HotEditionsModel", name := "twice", desc := "(IIII)Z" } : MethodName)) ∈ pmWs := pmWs_4 (List.mem_of_getElem? (i := 11) rfl) rfl
theorem w_732 : (Jvm.Cond.code ({ cls := "HotEditionsModel", name := "twice", desc := "(IIII)Z" } : MethodName) prog_14_method_21_code (8 : Nat) (Option.some FieldType.boolean)) ∈ pmWs := pmWs_4 (List.mem_of_getElem? (i := 12) rfl) rfl
theorem w_733 : (Jvm.Cond.methodLink "HotEditionsModel" (103 : Nat) ({ cls := "HotEditionsModel", name := "strangeOp", desc := "(I)Z" } : MethodName)) ∈ pmWs := pmWs_4 (List.mem_of_getElem? (i := 13) rfl) rfl
theorem w_735 : (Jvm.Cond.instanceMethod ({ cls := "HotEditionsModel", name := "strangeOp", desc := "(I)Z" } : MethodName)) ∈ pmWs := pmWs_4 (List.mem_of_getElem? (i := 15) rfl) rfl
theorem w_736 : (Jvm.Cond.code ({ cls := "HotEditionsModel", name := "strangeOp", desc := "(I)Z" } : MethodName) prog_14_method_22_code (7 : Nat) (Option.some FieldType.boolean)) ∈ pmWs := pmWs_4 (List.mem_of_getElem? (i := 16) rfl) rfl
theorem w_737 : (Jvm.Cond.methodLink "HotEditionsModel" (106 : Nat) ({ cls := "HotEditionsModel", name := "circle", desc := "(I)Z" } : MethodName)) ∈ pmWs := pmWs_4 (List.mem_of_getElem? (i := 17) rfl) rfl
theorem w_739 : (Jvm.Cond.instanceMethod ({ cls := "HotEditionsModel", name := "circle", desc := "(I)Z" } : MethodName)) ∈ pmWs := pmWs_4 (List.mem_of_getElem? (i := 19) rfl) rfl
theorem w_740 : (Jvm.Cond.code ({ cls := "HotEditionsModel", name := "circle", desc := "(I)Z" } : MethodName) prog_14_method_23_code (6 : Nat) (Option.some FieldType.boolean)) ∈ pmWs := pmWs_4 (List.mem_of_getElem? (i := 20) rfl) rfl
theorem w_741 : (Jvm.Cond.methodLink "HotEditionsModel" (109 : Nat) ({ cls := "HotEditionsModel", name := "callsNothing", desc := "(I)Z" } : MethodName)) ∈ pmWs := pmWs_4 (List.mem_of_getElem? (i := 21) rfl) rfl
theorem w_743 : (Jvm.Cond.instanceMethod ({ cls := "HotEditionsModel", name := "callsNothing", desc := "(I)Z" } : MethodName)) ∈ pmWs := pmWs_4 (List.mem_of_getElem? (i := 23) rfl) rfl
theorem w_744 : (Jvm.Cond.code ({ cls := "HotEditionsModel", name := "callsNothing", desc := "(I)Z" } : MethodName) prog_14_method_24_code (9 : Nat) (Option.some FieldType.boolean)) ∈ pmWs := pmWs_4 (List.mem_of_getElem? (i := 24) rfl) rfl
theorem w_745 : (Jvm.Cond.methodLink "HotEditionsModel" (137 : Nat) ({ cls := "HotEditionsModel", name := "renew", desc := "(II)V" } : MethodName)) ∈ pmWs := pmWs_4 (List.mem_of_getElem? (i := 25) rfl) rfl
theorem w_747 : (Jvm.Cond.instanceMethod ({ cls := "HotEditionsModel", name := "renew", desc := "(II)V" } : MethodName)) ∈ pmWs := pmWs_4 (List.mem_of_getElem? (i := 27) rfl) rfl
theorem w_748 : (Jvm.Cond.code ({ cls := "HotEditionsModel", name := "renew", desc := "(II)V" } : MethodName) prog_14_method_33_code (4 : Nat) (Option.none : Option FieldType)) ∈ pmWs := pmWs_4 (List.mem_of_getElem? (i := 28) rfl) rfl
theorem w_749 : (Jvm.Cond.methodLink "HotEditionsModel" (131 : Nat) ({ cls := "HotEditionsModel", name := "inUse", desc := "(I)Z" } : MethodName)) ∈ pmWs := pmWs_4 (List.mem_of_getElem? (i := 29) rfl) rfl
theorem w_751 : (Jvm.Cond.instanceMethod ({ cls := "HotEditionsModel", name := "inUse", desc := "(I)Z" } : MethodName)) ∈ pmWs := pmWs_4 (List.mem_of_getElem? (i := 31) rfl) rfl
theorem w_752 : (Jvm.Cond.code ({ cls := "HotEditionsModel", name := "inUse", desc := "(I)Z" } : MethodName) prog_14_method_32_code (4 : Nat) (Option.some FieldType.boolean)) ∈ pmWs := pmWs_4 (List.mem_of_getElem? (i := 32) rfl) rfl
theorem w_753 : (Jvm.Cond.methodLink "HotEditionsModel" (128 : Nat) ({ cls := "HotEditionsModel", name := "inFrames", desc := "(I)Z" } : MethodName)) ∈ pmWs := pmWs_4 (List.mem_of_getElem? (i := 33) rfl) rfl
theorem w_755 : (Jvm.Cond.instanceMethod ({ cls := "HotEditionsModel", name := "inFrames", desc := "(I)Z" } : MethodName)) ∈ pmWs := pmWs_4 (List.mem_of_getElem? (i := 35) rfl) rfl
theorem w_756 : (Jvm.Cond.code ({ cls := "HotEditionsModel", name := "inFrames", desc := "(I)Z" } : MethodName) prog_14_method_31_code (5 : Nat) (Option.some FieldType.boolean)) ∈ pmWs := pmWs_4 (List.mem_of_getElem? (i := 36) rfl) rfl
theorem w_757 : (Jvm.Cond.methodLink "HotEditionsLaw" (65 : Nat) ({ cls := "HotEditionsModel", name := "queue", desc := "(I)Z" } : MethodName)) ∈ pmWs := pmWs_4 (List.mem_of_getElem? (i := 37) rfl) rfl
theorem w_758 : (Jvm.Cond.instanceMethod ({ cls := "HotEditionsModel", name := "queue", desc := "(I)Z" } : MethodName)) ∈ pmWs := pmWs_4 (List.mem_of_getElem? (i := 38) rfl) rfl
theorem w_759 : (Jvm.Cond.selects "HotEditionsModel" ({ cls := "HotEditionsModel", name := "queue", desc := "(I)Z" } : MethodName) ({ cls := "HotEditionsModel", name := "queue", desc := "(I)Z" } : MethodName)) ∈ pmWs := pmWs_4 (List.mem_of_getElem? (i := 39) rfl) rfl
theorem w_760 : (Jvm.Cond.code ({ cls := "HotEditionsModel", name := "queue", desc := "(I)Z" } : MethodName) prog_14_method_35_code (3 : Nat) (Option.some FieldType.boolean)) ∈ pmWs := pmWs_4 (List.mem_of_getElem? (i := 40) rfl) rfl
theorem w_761 : (Jvm.Cond.methodLink "HotEditionsLaw" (69 : Nat) ({ cls := "HotEditionsModel", name := "swap", desc := "()I" } : MethodName)) ∈ pmWs := pmWs_4 (List.mem_of_getElem? (i := 41) rfl) rfl
theorem w_762 : (Jvm.Cond.instanceMethod ({ cls := "HotEditionsModel", name := "swap", desc := "()I" } : MethodName)) ∈ pmWs := pmWs_4 (List.mem_of_getElem? (i := 42) rfl) rfl
theorem w_763 : (Jvm.Cond.selects "HotEditionsModel" ({ cls := "HotEditionsModel", name := "swap", desc := "()I" } : MethodName) ({ cls := "HotEditionsModel", name := "swap", desc := "()I" } : MethodName)) ∈ pmWs := pmWs_4 (List.mem_of_getElem? (i := 43) rfl) rfl
theorem w_764 : (Jvm.Cond.code ({ cls := "HotEditionsModel", name := "swap", desc := "()I" } : MethodName) prog_14_method_36_code (4 : Nat) (Option.some FieldType.int)) ∈ pmWs := pmWs_4 (List.mem_of_getElem? (i := 44) rfl) rfl
theorem w_765 : (Jvm.Cond.methodLink "HotEditionsModel" (143 : Nat) ({ cls := "HotEditionsModel", name := "rules", desc := "(II)I" } : MethodName)) ∈ pmWs := pmWs_4 (List.mem_of_getElem? (i := 45) rfl) rfl
theorem w_767 : (Jvm.Cond.instanceMethod ({ cls := "HotEditionsModel", name := "rules", desc := "(II)I" } : MethodName)) ∈ pmWs := pmWs_4 (List.mem_of_getElem? (i := 47) rfl) rfl
theorem w_768 : (Jvm.Cond.code ({ cls := "HotEditionsModel", name := "rules", desc := "(II)I" } : MethodName) prog_14_method_30_code (5 : Nat) (Option.some FieldType.int)) ∈ pmWs := pmWs_4 (List.mem_of_getElem? (i := 48) rfl) rfl
theorem w_769 : (Jvm.Cond.methodLink "HotEditionsModel" (115 : Nat) ({ cls := "HotEditionsModel", name := "otherInterfaces", desc := "(II)Z" } : MethodName)) ∈ pmWs := pmWs_4 (List.mem_of_getElem? (i := 49) rfl) rfl
theorem w_771 : (Jvm.Cond.instanceMethod ({ cls := "HotEditionsModel", name := "otherInterfaces", desc := "(II)Z" } : MethodName)) ∈ pmWs := pmWs_4 (List.mem_of_getElem? (i := 51) rfl) rfl
theorem w_772 : (Jvm.Cond.code ({ cls := "HotEditionsModel", name := "otherInterfaces", desc := "(II)Z" } : MethodName) prog_14_method_26_code (7 : Nat) (Option.some FieldType.boolean)) ∈ pmWs := pmWs_4 (List.mem_of_getElem? (i := 52) rfl) rfl
theorem w_773 : (Jvm.Cond.methodLink "HotEditionsModel" (119 : Nat) ({ cls := "HotEditionsModel", name := "otherFields", desc := "(II)Z" } : MethodName)) ∈ pmWs := pmWs_4 (List.mem_of_getElem? (i := 53) rfl) rfl
theorem w_775 : (Jvm.Cond.instanceMethod ({ cls := "HotEditionsModel", name := "otherFields", desc := "(II)Z" } : MethodName)) ∈ pmWs := pmWs_4 (List.mem_of_getElem? (i := 55) rfl) rfl
theorem w_776 : (Jvm.Cond.code ({ cls := "HotEditionsModel", name := "otherFields", desc := "(II)Z" } : MethodName) prog_14_method_27_code (5 : Nat) (Option.some FieldType.boolean)) ∈ pmWs := pmWs_4 (List.mem_of_getElem? (i := 56) rfl) rfl
theorem w_777 : (Jvm.Cond.methodLink "HotEditionsModel" (122 : Nat) ({ cls := "HotEditionsModel", name := "moreMethods", desc := "(II)Z" } : MethodName)) ∈ pmWs := pmWs_4 (List.mem_of_getElem? (i := 57) rfl) rfl
theorem w_779 : (Jvm.Cond.instanceMethod ({ cls := "HotEditionsModel", name := "moreMethods", desc := "(II)Z" } : MethodName)) ∈ pmWs := pmWs_4 (List.mem_of_getElem? (i := 59) rfl) rfl
theorem w_780 : (Jvm.Cond.code ({ cls := "HotEditionsModel", name := "moreMethods", desc := "(II)Z" } : MethodName) prog_14_method_28_code (5 : Nat) (Option.some FieldType.boolean)) ∈ pmWs := pmWs_4 (List.mem_of_getElem? (i := 60) rfl) rfl
theorem w_781 : (Jvm.Cond.methodLink "HotEditionsModel" (125 : Nat) ({ cls := "HotEditionsModel", name := "otherMethodFlags", desc := "(II)Z" } : MethodName)) ∈ pmWs := pmWs_4 (List.mem_of_getElem? (i := 61) rfl) rfl
theorem w_783 : (Jvm.Cond.instanceMethod ({ cls := "HotEditionsModel", name := "otherMethodFlags", desc := "(II)Z" } : MethodName)) ∈ pmWs := pmWs_4 (List.mem_of_getElem? (i := 63) rfl) rfl
theorem w_784 : (Jvm.Cond.code ({ cls := "HotEditionsModel", name := "otherMethodFlags", desc := "(II)Z" } : MethodName) prog_14_method_29_code (7 : Nat) (Option.some FieldType.boolean)) ∈ pmWs := pmWs_4 (List.mem_of_getElem? (i := 64) rfl) rfl
theorem w_785 : (Jvm.Cond.methodLink "HotEditionsLaw" (74 : Nat) ({ cls := "HotEditionsModel", name := "repeat", desc := "(I)I" } : MethodName)) ∈ pmWs := pmWs_4 (List.mem_of_getElem? (i := 65) rfl) rfl
theorem w_786 : (Jvm.Cond.instanceMethod ({ cls := "HotEditionsModel", name := "repeat", desc := "(I)I" } : MethodName)) ∈ pmWs := pmWs_4 (List.mem_of_getElem? (i := 66) rfl) rfl
theorem w_787 : (Jvm.Cond.selects "HotEditionsModel" ({ cls := "HotEditionsModel", name := "repeat", desc := "(I)I" } : MethodName) ({ cls := "HotEditionsModel", name := "repeat", desc := "(I)I" } : MethodName)) ∈ pmWs := pmWs_4 (List.mem_of_getElem? (i := 67) rfl) rfl
theorem w_788 : (Jvm.Cond.code ({ cls := "HotEditionsModel", name := "repeat", desc := "(I)I" } : MethodName) prog_14_method_37_code (3 : Nat) (Option.some FieldType.int)) ∈ pmWs := pmWs_4 (List.mem_of_getElem? (i := 68) rfl) rfl
theorem w_789 : (Jvm.Cond.methodLink "HotEditionsLaw" (78 : Nat) ({ cls := "HotEditionsModel", name := "start", desc := "(III)Z" } : MethodName)) ∈ pmWs := pmWs_4 (List.mem_of_getElem? (i := 69) rfl) rfl
theorem w_790 : (Jvm.Cond.instanceMethod ({ cls := "HotEditionsModel", name := "start", desc := "(III)Z" } : MethodName)) ∈ pmWs := pmWs_4 (List.mem_of_getElem? (i := 70) rfl) rfl
theorem w_791 : (Jvm.Cond.selects "HotEditionsModel" ({ cls := "HotEditionsModel", name := "start", desc := "(III)Z" } : MethodName) ({ cls := "HotEditionsModel", name := "start", desc := "(III)Z" } : MethodName)) ∈ pmWs := pmWs_4 (List.mem_of_getElem? (i := 71) rfl) rfl
theorem w_792 : (Jvm.Cond.code ({ cls := "HotEditionsModel", name := "start", desc := "(III)Z" } : MethodName) prog_14_method_40_code (4 : Nat) (Option.some FieldType.boolean)) ∈ pmWs := pmWs_4 (List.mem_of_getElem? (i := 72) rfl) rfl
theorem w_793 : (Jvm.Cond.methodLink "HotEditionsModel" (146 : Nat) ({ cls := "HotEditionsModel", name := "isThread", desc := "(I)Z" } : MethodName)) ∈ pmWs := pmWs_4 (List.mem_of_getElem? (i := 73) rfl) rfl
theorem w_794 : (Jvm.Cond.static ({ cls := "HotEditionsModel", name := "isThread", desc := "(I)Z" } : MethodName)) ∈ pmWs := pmWs_4 (List.mem_of_getElem? (i := 74) rfl) rfl
theorem w_795 : (Jvm.Cond.code ({ cls := "HotEditionsModel", name := "isThread", desc := "(I)Z" } : MethodName) prog_14_method_39_code (1 : Nat) (Option.some FieldType.boolean)) ∈ pmWs := pmWs_4 (List.mem_of_getElem? (i := 75) rfl) rfl
theorem w_796 : (Jvm.Cond.methodLink "HotEditionsModel" (149 : Nat) ({ cls := "HotEditionsModel", name := "push", desc := "(III)V" } : MethodName)) ∈ pmWs := pmWs_4 (List.mem_of_getElem? (i := 76) rfl) rfl
theorem w_798 : (Jvm.Cond.instanceMethod ({ cls := "HotEditionsModel", name := "push", desc := "(III)V" } : MethodName)) ∈ pmWs := pmWs_4 (List.mem_of_getElem? (i := 78) rfl) rfl
theorem w_799 : (Jvm.Cond.code ({ cls := "HotEditionsModel", name := "push", desc := "(III)V" } : MethodName) prog_14_method_38_code (5 : Nat) (Option.none : Option FieldType)) ∈ pmWs := pmWs_4 (List.mem_of_getElem? (i := 79) rfl) rfl
theorem w_800 : (Jvm.Cond.methodLink "HotEditionsLaw" (83 : Nat) ({ cls := "HotEditionsModel", name := "step", desc := "(II)I" } : MethodName)) ∈ pmWs := pmWs_4 (List.mem_of_getElem? (i := 80) rfl) rfl
theorem w_801 : (Jvm.Cond.instanceMethod ({ cls := "HotEditionsModel", name := "step", desc := "(II)I" } : MethodName)) ∈ pmWs := pmWs_4 (List.mem_of_getElem? (i := 81) rfl) rfl
theorem w_802 : (Jvm.Cond.selects "HotEditionsModel" ({ cls := "HotEditionsModel", name := "step", desc := "(II)I" } : MethodName) ({ cls := "HotEditionsModel", name := "step", desc := "(II)I" } : MethodName)) ∈ pmWs := pmWs_4 (List.mem_of_getElem? (i := 82) rfl) rfl
theorem w_803 : (Jvm.Cond.code ({ cls := "HotEditionsModel", name := "step", desc := "(II)I" } : MethodName) prog_14_method_42_code (4 : Nat) (Option.some FieldType.int)) ∈ pmWs := pmWs_4 (List.mem_of_getElem? (i := 83) rfl) rfl
theorem w_804 : (Jvm.Cond.methodLink "HotEditionsModel" (152 : Nat) ({ cls := "HotEditionsModel", name := "once", desc := "(I)V" } : MethodName)) ∈ pmWs := pmWs_4 (List.mem_of_getElem? (i := 84) rfl) rfl
theorem w_806 : (Jvm.Cond.instanceMethod ({ cls := "HotEditionsModel", name := "once", desc := "(I)V" } : MethodName)) ∈ pmWs := pmWs_4 (List.mem_of_getElem? (i := 86) rfl) rfl
theorem w_807 : (Jvm.Cond.code ({ cls := "HotEditionsModel", name := "once", desc := "(I)V" } : MethodName) prog_14_method_41_code (8 : Nat) (Option.none : Option FieldType)) ∈ pmWs := pmWs_4 (List.mem_of_getElem? (i := 87) rfl) rfl
theorem w_808 : (Jvm.Cond.methodLink "HotEditionsLaw" (87 : Nat) ({ cls := "HotEditionsModel", name := "frame", desc := "(II)I" } : MethodName)) ∈ pmWs := pmWs_4 (List.mem_of_getElem? (i := 88) rfl) rfl
theorem w_809 : (Jvm.Cond.instanceMethod ({ cls := "HotEditionsModel", name := "frame", desc := "(II)I" } : MethodName)) ∈ pmWs := pmWs_4 (List.mem_of_getElem? (i := 89) rfl) rfl
theorem w_810 : (Jvm.Cond.selects "HotEditionsModel" ({ cls := "HotEditionsModel", name := "frame", desc := "(II)I" } : MethodName) ({ cls := "HotEditionsModel", name := "frame", desc := "(II)I" } : MethodName)) ∈ pmWs := pmWs_4 (List.mem_of_getElem? (i := 90) rfl) rfl
theorem w_811 : (Jvm.Cond.code ({ cls := "HotEditionsModel", name := "frame", desc := "(II)I" } : MethodName) prog_14_method_43_code (4 : Nat) (Option.some FieldType.int)) ∈ pmWs := pmWs_4 (List.mem_of_getElem? (i := 91) rfl) rfl
theorem w_812 : (Jvm.Cond.methodLink "HotEditionsLaw" (91 : Nat) ({ cls := "HotEditionsModel", name := "result", desc := "(I)I" } : MethodName)) ∈ pmWs := pmWs_4 (List.mem_of_getElem? (i := 92) rfl) rfl
theorem w_813 : (Jvm.Cond.instanceMethod ({ cls := "HotEditionsModel", name := "result", desc := "(I)I" } : MethodName)) ∈ pmWs := pmWs_4 (List.mem_of_getElem? (i := 93) rfl) rfl
theorem w_814 : (Jvm.Cond.selects "HotEditionsModel" ({ cls := "HotEditionsModel", name := "result", desc := "(I)I" } : MethodName) ({ cls := "HotEditionsModel", name := "result", desc := "(I)I" } : MethodName)) ∈ pmWs := pmWs_4 (List.mem_of_getElem? (i := 94) rfl) rfl
theorem w_815 : (Jvm.Cond.code ({ cls := "HotEditionsModel", name := "result", desc := "(I)I" } : MethodName) prog_14_method_44_code (2 : Nat) (Option.some FieldType.int)) ∈ pmWs := pmWs_4 (List.mem_of_getElem? (i := 95) rfl) rfl
theorem w_816 : (Jvm.Cond.methodLink "HotEditionsLaw" (95 : Nat) ({ cls := "HotEditionsModel", name := "edition", desc := "(I)I" } : MethodName)) ∈ pmWs := pmWs_4 (List.mem_of_getElem? (i := 96) rfl) rfl
theorem w_817 : (Jvm.Cond.instanceMethod ({ cls := "HotEditionsModel", name := "edition", desc := "(I)I" } : MethodName)) ∈ pmWs := pmWs_4 (List.mem_of_getElem? (i := 97) rfl) rfl
theorem w_818 : (Jvm.Cond.selects "HotEditionsModel" ({ cls := "HotEditionsModel", name := "edition", desc := "(I)I" } : MethodName) ({ cls := "HotEditionsModel", name := "edition", desc := "(I)I" } : MethodName)) ∈ pmWs := pmWs_4 (List.mem_of_getElem? (i := 98) rfl) rfl
theorem w_819 : (Jvm.Cond.code ({ cls := "HotEditionsModel", name := "edition", desc := "(I)I" } : MethodName) prog_14_method_45_code (2 : Nat) (Option.some FieldType.int)) ∈ pmWs := pmWs_4 (List.mem_of_getElem? (i := 99) rfl) rfl
theorem w_820 : (Jvm.Cond.methodLink "HotEditionsLaw" (99 : Nat) ({ cls := "HotEditionsModel", name := "kept", desc := "(I)I" } : MethodName)) ∈ pmWs := pmWs_4 (List.mem_of_getElem? (i := 100) rfl) rfl
theorem w_821 : (Jvm.Cond.instanceMethod ({ cls := "HotEditionsModel", name := "kept", desc := "(I)I" } : MethodName)) ∈ pmWs := pmWs_4 (List.mem_of_getElem? (i := 101) rfl) rfl
theorem w_822 : (Jvm.Cond.selects "HotEditionsModel" ({ cls := "HotEditionsModel", name := "kept", desc := "(I)I" } : MethodName) ({ cls := "HotEditionsModel", name := "kept", desc := "(I)I" } : MethodName)) ∈ pmWs := pmWs_4 (List.mem_of_getElem? (i := 102) rfl) rfl
theorem w_823 : (Jvm.Cond.code ({ cls := "HotEditionsModel", name := "kept", desc := "(I)I" } : MethodName) prog_14_method_46_code (4 : Nat) (Option.some FieldType.int)) ∈ pmWs := pmWs_4 (List.mem_of_getElem? (i := 103) rfl) rfl
theorem ws_HE_isInBatch : Jvm.Cond.selects "HotEditions" ⟨"HotEditions", "isInBatch", "(I)Z"⟩ ⟨"HotEditions", "isInBatch", "(I)Z"⟩ ∈ pmWs := pmWs_s (List.mem_append_left _ (List.mem_of_getElem? (i := 0) rfl))
theorem ws_HE_firstBrokenOfBatch : Jvm.Cond.selects "HotEditions" ⟨"HotEditions", "firstBrokenOfBatch", "()I"⟩ ⟨"HotEditions", "firstBrokenOfBatch", "()I"⟩ ∈ pmWs := pmWs_s (List.mem_append_left _ (List.mem_of_getElem? (i := 1) rfl))
theorem ws_HE_installBatch : Jvm.Cond.selects "HotEditions" ⟨"HotEditions", "installBatch", "()V"⟩ ⟨"HotEditions", "installBatch", "()V"⟩ ∈ pmWs := pmWs_s (List.mem_append_left _ (List.mem_of_getElem? (i := 2) rfl))
theorem ws_Cl_leave : Jvm.Cond.selects "HotEditions$Calls" ⟨"HotEditions$Calls", "leave", "(I)V"⟩ ⟨"HotEditions$Calls", "leave", "(I)V"⟩ ∈ pmWs := pmWs_s (List.mem_append_left _ (List.mem_of_getElem? (i := 3) rfl))
theorem ws_HE_findFrame : Jvm.Cond.selects "HotEditions" ⟨"HotEditions", "findFrame", "(II)LHotEditions$Frame;"⟩ ⟨"HotEditions", "findFrame", "(II)LHotEditions$Frame;"⟩ ∈ pmWs := pmWs_s (List.mem_append_left _ (List.mem_of_getElem? (i := 4) rfl))
theorem ws_HE_isFirstOfItsEdition : Jvm.Cond.selects "HotEditions" ⟨"HotEditions", "isFirstOfItsEdition", "(IILHotEditions$Frame;)Z"⟩ ⟨"HotEditions", "isFirstOfItsEdition", "(IILHotEditions$Frame;)Z"⟩ ∈ pmWs := pmWs_s (List.mem_append_left _ (List.mem_of_getElem? (i := 5) rfl))
theorem ws_Mo_put : Jvm.Cond.selects "HotEditionsModel" ⟨"HotEditionsModel", "put", "(III)V"⟩ ⟨"HotEditionsModel", "put", "(III)V"⟩ ∈ pmWs := pmWs_s (List.mem_append_left _ (List.mem_of_getElem? (i := 6) rfl))
theorem ws_Mo_loaded : Jvm.Cond.selects "HotEditionsModel" ⟨"HotEditionsModel", "loaded", "(I)Z"⟩ ⟨"HotEditionsModel", "loaded", "(I)Z"⟩ ∈ pmWs := pmWs_s (List.mem_append_left _ (List.mem_of_getElem? (i := 7) rfl))
theorem ws_Mo_transcribe : Jvm.Cond.selects "HotEditionsModel" ⟨"HotEditionsModel", "transcribe", "(II)V"⟩ ⟨"HotEditionsModel", "transcribe", "(II)V"⟩ ∈ pmWs := pmWs_s (List.mem_append_left _ (List.mem_of_getElem? (i := 8) rfl))
theorem ws_Mo_get : Jvm.Cond.selects "HotEditionsModel" ⟨"HotEditionsModel", "get", "(II)I"⟩ ⟨"HotEditionsModel", "get", "(II)I"⟩ ∈ pmWs := pmWs_s (List.mem_append_left _ (List.mem_of_getElem? (i := 9) rfl))
theorem ws_Mo_treat : Jvm.Cond.selects "HotEditionsModel" ⟨"HotEditionsModel", "treat", "(III)V"⟩ ⟨"HotEditionsModel", "treat", "(III)V"⟩ ∈ pmWs := pmWs_s (List.mem_append_left _ (List.mem_of_getElem? (i := 10) rfl))
theorem ws_Mo_changes : Jvm.Cond.selects "HotEditionsModel" ⟨"HotEditionsModel", "changes", "(IIZ)V"⟩ ⟨"HotEditionsModel", "changes", "(IIZ)V"⟩ ∈ pmWs := pmWs_s (List.mem_append_left _ (List.mem_of_getElem? (i := 11) rfl))
theorem ws_Mo_change : Jvm.Cond.selects "HotEditionsModel" ⟨"HotEditionsModel", "change", "(II)V"⟩ ⟨"HotEditionsModel", "change", "(II)V"⟩ ∈ pmWs := pmWs_s (List.mem_append_left _ (List.mem_of_getElem? (i := 12) rfl))
theorem ws_Mo_find : Jvm.Cond.selects "HotEditionsModel" ⟨"HotEditionsModel", "find", "(II)I"⟩ ⟨"HotEditionsModel", "find", "(II)I"⟩ ∈ pmWs := pmWs_s (List.mem_append_left _ (List.mem_of_getElem? (i := 13) rfl))
theorem ws_Mo_plainRules : Jvm.Cond.selects "HotEditionsModel" ⟨"HotEditionsModel", "plainRules", "(I)I"⟩ ⟨"HotEditionsModel", "plainRules", "(I)I"⟩ ∈ pmWs := pmWs_s (List.mem_append_left _ (List.mem_of_getElem? (i := 14) rfl))
theorem ws_Mo_twice : Jvm.Cond.selects "HotEditionsModel" ⟨"HotEditionsModel", "twice", "(IIII)Z"⟩ ⟨"HotEditionsModel", "twice", "(IIII)Z"⟩ ∈ pmWs := pmWs_s (List.mem_append_left _ (List.mem_of_getElem? (i := 15) rfl))
theorem ws_Mo_strangeOp : Jvm.Cond.selects "HotEditionsModel" ⟨"HotEditionsModel", "strangeOp", "(I)Z"⟩ ⟨"HotEditionsModel", "strangeOp", "(I)Z"⟩ ∈ pmWs := pmWs_s (List.mem_append_right _ (List.mem_of_getElem? (i := 0) rfl))
theorem ws_Mo_circle : Jvm.Cond.selects "HotEditionsModel" ⟨"HotEditionsModel", "circle", "(I)Z"⟩ ⟨"HotEditionsModel", "circle", "(I)Z"⟩ ∈ pmWs := pmWs_s (List.mem_append_right _ (List.mem_of_getElem? (i := 1) rfl))
theorem ws_Mo_callsNothing : Jvm.Cond.selects "HotEditionsModel" ⟨"HotEditionsModel", "callsNothing", "(I)Z"⟩ ⟨"HotEditionsModel", "callsNothing", "(I)Z"⟩ ∈ pmWs := pmWs_s (List.mem_append_right _ (List.mem_of_getElem? (i := 2) rfl))
theorem ws_Mo_renew : Jvm.Cond.selects "HotEditionsModel" ⟨"HotEditionsModel", "renew", "(II)V"⟩ ⟨"HotEditionsModel", "renew", "(II)V"⟩ ∈ pmWs := pmWs_s (List.mem_append_right _ (List.mem_of_getElem? (i := 3) rfl))
theorem ws_Mo_inUse : Jvm.Cond.selects "HotEditionsModel" ⟨"HotEditionsModel", "inUse", "(I)Z"⟩ ⟨"HotEditionsModel", "inUse", "(I)Z"⟩ ∈ pmWs := pmWs_s (List.mem_append_right _ (List.mem_of_getElem? (i := 4) rfl))
theorem ws_Mo_inFrames : Jvm.Cond.selects "HotEditionsModel" ⟨"HotEditionsModel", "inFrames", "(I)Z"⟩ ⟨"HotEditionsModel", "inFrames", "(I)Z"⟩ ∈ pmWs := pmWs_s (List.mem_append_right _ (List.mem_of_getElem? (i := 5) rfl))
theorem ws_Mo_rules : Jvm.Cond.selects "HotEditionsModel" ⟨"HotEditionsModel", "rules", "(II)I"⟩ ⟨"HotEditionsModel", "rules", "(II)I"⟩ ∈ pmWs := pmWs_s (List.mem_append_right _ (List.mem_of_getElem? (i := 6) rfl))
theorem ws_Mo_otherInterfaces : Jvm.Cond.selects "HotEditionsModel" ⟨"HotEditionsModel", "otherInterfaces", "(II)Z"⟩ ⟨"HotEditionsModel", "otherInterfaces", "(II)Z"⟩ ∈ pmWs := pmWs_s (List.mem_append_right _ (List.mem_of_getElem? (i := 7) rfl))
theorem ws_Mo_otherFields : Jvm.Cond.selects "HotEditionsModel" ⟨"HotEditionsModel", "otherFields", "(II)Z"⟩ ⟨"HotEditionsModel", "otherFields", "(II)Z"⟩ ∈ pmWs := pmWs_s (List.mem_append_right _ (List.mem_of_getElem? (i := 8) rfl))
theorem ws_Mo_moreMethods : Jvm.Cond.selects "HotEditionsModel" ⟨"HotEditionsModel", "moreMethods", "(II)Z"⟩ ⟨"HotEditionsModel", "moreMethods", "(II)Z"⟩ ∈ pmWs := pmWs_s (List.mem_append_right _ (List.mem_of_getElem? (i := 9) rfl))
theorem ws_Mo_otherMethodFlags : Jvm.Cond.selects "HotEditionsModel" ⟨"HotEditionsModel", "otherMethodFlags", "(II)Z"⟩ ⟨"HotEditionsModel", "otherMethodFlags", "(II)Z"⟩ ∈ pmWs := pmWs_s (List.mem_append_right _ (List.mem_of_getElem? (i := 10) rfl))
theorem ws_Mo_push : Jvm.Cond.selects "HotEditionsModel" ⟨"HotEditionsModel", "push", "(III)V"⟩ ⟨"HotEditionsModel", "push", "(III)V"⟩ ∈ pmWs := pmWs_s (List.mem_append_right _ (List.mem_of_getElem? (i := 11) rfl))
theorem ws_Mo_once : Jvm.Cond.selects "HotEditionsModel" ⟨"HotEditionsModel", "once", "(I)V"⟩ ⟨"HotEditionsModel", "once", "(I)V"⟩ ∈ pmWs := pmWs_s (List.mem_append_right _ (List.mem_of_getElem? (i := 12) rfl))
end
section
/-! The world as a partial heap (pm) and the judgement V: from a place of a method the method returns with a post over answers and worlds. Every row of the machine is used once here. -/
abbrev pmC : Type := (Nat × vp_A) ⊕ (Nat × List Value)
abbrev pmG : Type := Nat → Option pmC
abbrev pmE : Type := Launch × va_G × (Nat → ClassId) × Nat × Nat × (Nat → Int32)
abbrev pmLo : Type := List (Option Value)
abbrev pmPost : Type := Option Value → Nat → pmG → Prop
def pmSet (G : pmG) (a : Nat) (c : pmC) : pmG := fun b => if b = a then some c else G b
theorem pmSet_self (G : pmG) (a : Nat) (c : pmC) : pmSet G a c a = some c := if_pos rfl
theorem pmSet_ne (G : pmG) {a b : Nat} (c : pmC) (h : b ≠ a) : pmSet G a c b = G b := if_neg h
def pmT (aK : Nat → ClassId) (e : pmC) : va_E := match e with
  | .inl x => .inl (aK x.1, x.2)
  | .inr o => .inr o
def pmPush (r : Option Value) (st : List Value) : List Value := match r with
  | none => st
  | some v => v :: st
theorem pmPush_eq (r : Option Value) (st : List Value) : r.toList ++ st = pmPush r st := by cases r <;> rfl
def pmIn (vs : List Value) (n : Nat) : pmLo := vs.map some ++ List.replicate (n - vs.length) none
-- the heap holds what G says
def pmR (Γ : pmE) (G : pmG) (H : Heap) : Prop := ∀ (a : Nat) (e : pmC), G a = some e → va_at Γ.2.1 pmCl (a, pmT Γ.2.2.1 e) H
-- what the tables say
def pmK (Γ : pmE) (U : State) : Prop := (∀ w ∈ pmWs, ∀ a : Array Value, w.before a U = true) ∧ (∀ (c : Nat) (q : vw_C), pmCl[c]? = some q → u_Kn U q.1 q.2.1 q.2.2 (Γ.2.1.1 c) (Γ.2.1.2 c)) ∧ ∀ (k : Nat) (ty : FieldType), pmTy k = some ty → ArrOfT U (Γ.2.2.1 k) ty ∧ va_RA U (Γ.2.2.1 k) ty
def pmS (Γ : pmE) (U : State) (H : Heap) : Prop := va_X Γ.2.2.2.1 Γ.2.2.2.2.1 Γ.2.2.2.2.2 U H ∧ Γ.2.2.2.1 < H.size
def pmA (G : pmG) (n : Nat) : Nat → Prop := fun q => (∃ e, G q = some e) ∨ n ≤ q
theorem pmMv_moved {w : Jvm.Cond} {s U : State} (h : pmMv w = true) (hW : s.WarmedH U.vm) (hs : ∀ a : Array Value, w.before a s = true) : ∀ a : Array Value, w.before a U = true := by
  unfold pmMv at h
  split at h
  · exact fun a => va_Nw.use rfl (va_Nw.warmF hW (hs #[]))
  · exact fun a => va_Nw.use rfl (va_Nw.warmM hW (hs #[]))
  · exact fun a => va_AO.use (va_AO.moved hW.alike (va_AO.of (hs #[])))
  · exact fun a => word_at hW (good_of_word h) (hs #[])
theorem pmK.moved {Γ : pmE} {s U : State} (hW : s.WarmedH U.vm) (h : pmK Γ s) : pmK Γ U :=
  ⟨fun w hw => pmMv_moved (pmWs_ok w hw) hW (h.1 w hw), fun c q hq => u_Kn_moved hW.alike (h.2.1 c q hq), fun k ty hk => ⟨arrOfT_moved hW.alike (h.2.2 k ty hk).1, (h.2.2 k ty hk).2.moved hW.alike⟩⟩
-- the locals
def pmL (ls : Array Slot) (nL : Nat) (lo : pmLo) : Prop := ∃ lv : List (Nat × Value), lv_has ls nL lv ∧ lo.length = nL ∧ ∀ (i : Nat) (v : Value), lo[i]? = some (some v) → (i, v) ∈ lv ∧ v.category = 1
theorem pmL.get {ls : Array Slot} {nL : Nat} {lo : pmLo} (h : pmL ls nL lo) {i : Nat} {v : Value} (hi : lo[i]? = some (some v)) : ls[i]? = some (.val v) := by
  obtain ⟨lv, h1, h2, h3⟩ := h
  exact h1.2.2 (i, v) (h3 i v hi).1
theorem pmL.size {ls : Array Slot} {nL : Nat} {lo : pmLo} (h : pmL ls nL lo) : ls.size = nL := by
  obtain ⟨lv, h1, h2, h3⟩ := h
  exact h1.1
theorem pmL.set {ls' : Array Slot} {nL : Nat} {lo : pmLo} {lv : List (Nat × Value)} {i : Nat} {v : Value} (h2 : lo.length = nL) (h3 : ∀ (i : Nat) (v : Value), lo[i]? = some (some v) → (i, v) ∈ lv ∧ v.category = 1) (hv : v.category = 1)
    (h' : lv_has ls' nL ((i, v) :: lv.filter (fun q => !(q.1 == i) && !(q.1 + 1 == i && q.2.category == 2)))) : pmL ls' nL (lo.set i (some v)) := by
  refine ⟨_, h', by simp [h2], fun j u hj => ?_⟩
  rw [List.getElem?_set] at hj
  split at hj
  · rename_i hij
    split at hj
    · cases hj
      subst hij
      exact ⟨List.mem_cons_self, hv⟩
    · cases hj
  · rename_i hij
    obtain ⟨g1, g2⟩ := h3 j u hj
    refine ⟨List.mem_cons_of_mem _ (List.mem_filter.mpr ⟨g1, ?_⟩), g2⟩
    have hne : (j == i) = false := by simpa using fun h : j = i => hij h.symm
    simp [hne, g2]
theorem pm_args {vs : List Value} (hv : ∀ v ∈ vs, v.category = 1) : ∀ (b i : Nat) (v : Value), vs[i]? = some v → (b + i, v) ∈ lv_args b vs := by
  induction vs with
  | nil => intro b i v h; simp at h
  | cons u us ih =>
    intro b i v h
    have hu : u.category = 1 := hv u List.mem_cons_self
    have e : lv_args b (u :: us) = (b, u) :: lv_args (b + 1) us := by
      rw [lv_args, if_neg (by rw [hu]; decide)]
    rw [e]
    cases i with
    | zero => simp at h; subst h; exact List.mem_cons_self
    | succ i =>
      have h2 := ih (fun v hv' => hv v (List.mem_cons_of_mem _ hv')) (b + 1) i v (by simpa using h)
      rw [show b + 1 + i = b + (i + 1) by omega] at h2
      exact List.mem_cons_of_mem _ h2
theorem pm_sl {vs : List Value} (hv : ∀ v ∈ vs, v.category = 1) : (lg_sl vs).length = vs.length := by
  induction vs with
  | nil => rfl
  | cons u us ih =>
    have hu : u.category = 1 := hv u List.mem_cons_self
    have := ih (fun v hv' => hv v (List.mem_cons_of_mem _ hv'))
    simp only [lg_sl, List.flatMap_cons, List.length_append, List.length_cons] at this ⊢
    rw [this, if_neg (by rw [hu]; decide)]
    simp
    omega
theorem pmL.entry {vs : List Value} {n : Nat} (hv : ∀ v ∈ vs, v.category = 1) (hn : vs.length ≤ n) : pmL ((lg_sl vs ++ List.replicate (n - (lg_sl vs).length) Slot.unset).toArray) n (pmIn vs n) := by
  refine ⟨_, lv_entry vs (by rw [pm_sl hv]; exact hn), by simp [pmIn]; omega, fun i v h => ?_⟩
  unfold pmIn at h
  by_cases hi : i < vs.length
  · rw [List.getElem?_append_left (by simpa using hi)] at h
    simp at h
    have h1 := pm_args hv 0 i v (by simpa using h)
    rw [Nat.zero_add] at h1
    exact ⟨h1, hv v (List.mem_of_getElem? h)⟩
  · rw [List.getElem?_append_right (by simpa using Nat.le_of_not_lt hi)] at h
    rw [List.getElem?_replicate] at h
    split at h <;> cases h
-- the fixed part of a place, its moving part, the judgement
def pmX (Γ : pmE) (M : pmM) (p : Program) (s : State) (m : MethodId) (args : Array Value) (meth : Method) (c : Code) (R : Room) (A : Nat → Prop) (Qc : Array Value → State → Outcome → State → Prop) (mc ms : Nat) (Q : pmPost) : Prop :=
  p.tables.exec = Jvm.exec ∧ c.code = M.2.1 ∧ c.maxLocals = M.2.2.1 ∧ meth.sig.returnType = M.2.2.2.1 ∧ meth.locks = false ∧ meth.name = M.1.name ∧ s.vm.findClass M.1.cls = some m.cls ∧ pmK Γ s ∧ (pmS Γ s s.heap ∧ ¬ A Γ.2.2.2.1) ∧
  (M.2.2.2.2 ≤ R.frames ∧ 40 * M.2.2.2.2 ≤ R.locals ∧ mc ≤ R.cells ∧ ms ≤ R.slots) ∧ (∀ q, s.heap.size ≤ q → A q) ∧
  ∀ (r : Option Value) (n' : Nat) (G' : pmG) (t : State), Q r n' G' → t.heap.size = n' → pmR Γ G' t.heap → (∀ a e, G' a = some e → A a) → va_F A s t → Qc args s (.returned r) t
def pmY (Γ : pmE) (M : pmM) (s : State) (A : Nat → Prop) (mc ms : Nat) (ls : Array Slot) (H : Heap) (locs : List Loc) (cells slots : Nat) (lo : pmLo) (n : Nat) (G : pmG) (bc bs : Nat) : Prop :=
  pmL ls M.2.2.1 lo ∧ H.size = n ∧ pmR Γ G H ∧ (∀ a e, G a = some e → A a) ∧ va_S A s.heap H locs ∧ cells + bc = mc ∧ slots + bs = ms
def pV (Γ : pmE) (M : pmM) (pc : Nat) (lo : pmLo) (st : List Value) (n : Nat) (G : pmG) (bc bs : Nat) (Q : pmPost) : Prop :=
  ∀ (p : Program) (e : Env) (s : State) (m : MethodId) (args : Array Value) (below : List Frame) (meth : Method) (c : Code) (R : Room) (A : Nat → Prop) (Qc : Array Value → State → Outcome → State → Prop) (mc ms : Nat), pmX Γ M p s m args meth c R A Qc mc ms Q →
    ∀ (ls : Array Slot) (H : Heap) (locs : List Loc) (cells slots : Nat), pmY Γ M s A mc ms ls H locs cells slots lo n G bc bs → W p Γ.1 e R s m args below meth c H locs cells slots (MQ below Qc args s mc ms A) (F0 m pc ls st)
theorem pmR.set {Γ : pmE} {G : pmG} {H H' : Heap} {a : Nat} {e : pmC} (h : pmR Γ G H) (he : va_at Γ.2.1 pmCl (a, pmT Γ.2.2.1 e) H') (oq : ∀ q : Nat, q ≠ a → H'[q]? = H[q]?) : pmR Γ (pmSet G a e) H' := by
  intro b x hb
  by_cases hba : b = a
  · subst hba
    rw [pmSet_self] at hb
    cases hb
    exact he
  · rw [pmSet_ne _ _ hba] at hb
    exact (h b x hb).kept (oq b hba)
theorem pmR.push {Γ : pmE} {G : pmG} {H H' : Heap} {a : Nat} {e : pmC} (h : pmR Γ G H) (ha : H.size = a) (he : va_at Γ.2.1 pmCl (a, pmT Γ.2.2.1 e) H') (oq : ∀ q : Nat, q < a → H'[q]? = H[q]?) : pmR Γ (pmSet G a e) H' := by
  intro b x hb
  by_cases hba : b = a
  · subst hba
    rw [pmSet_self] at hb
    cases hb
    exact he
  · rw [pmSet_ne _ _ hba] at hb
    have h1 := h b x hb
    have h2 : b < H.size := h1.lt
    exact h1.kept (oq b (by omega))
theorem pmSet_dom {G : pmG} {a : Nat} {c : pmC} {A : Nat → Prop} (h : ∀ a e, G a = some e → A a) (ha : A a) : ∀ b e, pmSet G a c b = some e → A b := by
  intro b e hb
  by_cases hba : b = a
  · subst hba; exact ha
  · rw [pmSet_ne _ _ hba] at hb
    exact h b e hb
theorem pV.post {Γ : pmE} {M : pmM} {pc : Nat} {lo : pmLo} {st : List Value} {n : Nat} {G : pmG} {bc bs : Nat} {Q Q' : pmPost} (h : pV Γ M pc lo st n G bc bs Q') (hQ : ∀ r n' G', Q' r n' G' → Q r n' G') : pV Γ M pc lo st n G bc bs Q := by
  intro p e s m args below meth c R A Qc mc ms X
  obtain ⟨x1, x2, x3, x4, x5, x6, x7, x8, x9, x10, x11, x12⟩ := X
  exact h p e s m args below meth c R A Qc mc ms ⟨x1, x2, x3, x4, x5, x6, x7, x8, x9, x10, x11, fun r n' G' t hq => x12 r n' G' t (hQ r n' G' hq)⟩
end
section
/-! V's rows: an instruction a row. -/
section VROWS
variable {Γ : pmE} {M : pmM} {pc : Nat} {lo : pmLo} {st : List Value} {n : Nat} {G : pmG} {bc bs : Nat} {Q : pmPost}
theorem V_iconst {z : Int} {v : Int32} (hd : decode M.2.1 pc = .ok (.iconst z, 1)) (hv : Int32.ofInt z = v) (k : pV Γ M (pc + 1) lo (.int v :: st) n G bc bs Q) : pV Γ M pc lo (st) n G bc bs Q :=
  fun p e s m args below meth c R A Qc mc ms X ls H locs cells slots Y => lv_iconst X.1 X.2.1 hd hv (k p e s m args below meth c R A Qc mc ms X ls H locs cells slots Y)
theorem V_bipush {z : Int} {v : Int32} (hd : decode M.2.1 pc = .ok (.bipush z, 2)) (hv : (Int8.ofInt z).toInt32 = v) (k : pV Γ M (pc + 2) lo (.int v :: st) n G bc bs Q) : pV Γ M pc lo (st) n G bc bs Q :=
  fun p e s m args below meth c R A Qc mc ms X ls H locs cells slots Y => lv_bipush X.1 X.2.1 hd hv (k p e s m args below meth c R A Qc mc ms X ls H locs cells slots Y)
theorem V_sipush {z : Int} {v : Int32} (hd : decode M.2.1 pc = .ok (.sipush z, 3)) (hv : (Int16.ofInt z).toInt32 = v) (k : pV Γ M (pc + 3) lo (.int v :: st) n G bc bs Q) : pV Γ M pc lo (st) n G bc bs Q :=
  fun p e s m args below meth c R A Qc mc ms X ls H locs cells slots Y => lv_sipush X.1 X.2.1 hd hv (k p e s m args below meth c R A Qc mc ms X ls H locs cells slots Y)
theorem V_null (hd : decode M.2.1 pc = .ok (.aconst_null, 1)) (k : pV Γ M (pc + 1) lo (.null :: st) n G bc bs Q) : pV Γ M pc lo (st) n G bc bs Q :=
  fun p e s m args below meth c R A Qc mc ms X ls H locs cells slots Y => lv_null X.1 X.2.1 hd (k p e s m args below meth c R A Qc mc ms X ls H locs cells slots Y)
theorem V_iload_n {i : Fin 4} {x : Int32} (hd : decode M.2.1 pc = .ok (.iload_n i, 1)) (hl : lo[(i : Nat)]? = some (some (.int x))) (k : pV Γ M (pc + 1) lo (.int x :: st) n G bc bs Q) : pV Γ M pc lo (st) n G bc bs Q :=
  fun p e s m args below meth c R A Qc mc ms X ls H locs cells slots Y => lv_iload_n X.1 X.2.1 hd rfl (Y.1.get hl) (k p e s m args below meth c R A Qc mc ms X ls H locs cells slots Y)
theorem V_iload {i : Nat} {x : Int32} (hd : decode M.2.1 pc = .ok (.iload i, 2)) (hl : lo[i]? = some (some (.int x))) (k : pV Γ M (pc + 2) lo (.int x :: st) n G bc bs Q) : pV Γ M pc lo (st) n G bc bs Q :=
  fun p e s m args below meth c R A Qc mc ms X ls H locs cells slots Y => lv_iload X.1 X.2.1 hd (Y.1.get hl) (k p e s m args below meth c R A Qc mc ms X ls H locs cells slots Y)
theorem V_aload_n {i : Fin 4} {x : Nat} (hd : decode M.2.1 pc = .ok (.aload_n i, 1)) (hl : lo[(i : Nat)]? = some (some (.ref x))) (k : pV Γ M (pc + 1) lo (.ref x :: st) n G bc bs Q) : pV Γ M pc lo (st) n G bc bs Q :=
  fun p e s m args below meth c R A Qc mc ms X ls H locs cells slots Y => lv_aload_n X.1 X.2.1 hd rfl (Y.1.get hl) (k p e s m args below meth c R A Qc mc ms X ls H locs cells slots Y)
theorem V_aload {i : Nat} {x : Nat} (hd : decode M.2.1 pc = .ok (.aload i, 2)) (hl : lo[i]? = some (some (.ref x))) (k : pV Γ M (pc + 2) lo (.ref x :: st) n G bc bs Q) : pV Γ M pc lo (st) n G bc bs Q :=
  fun p e s m args below meth c R A Qc mc ms X ls H locs cells slots Y => lv_aload X.1 X.2.1 hd (Y.1.get hl) (k p e s m args below meth c R A Qc mc ms X ls H locs cells slots Y)
theorem V_aload_nN {i : Fin 4} (hd : decode M.2.1 pc = .ok (.aload_n i, 1)) (hl : lo[(i : Nat)]? = some (some .null)) (k : pV Γ M (pc + 1) lo (.null :: st) n G bc bs Q) : pV Γ M pc lo (st) n G bc bs Q :=
  fun p e s m args below meth c R A Qc mc ms X ls H locs cells slots Y => lv_aload_nN X.1 X.2.1 hd rfl (Y.1.get hl) (k p e s m args below meth c R A Qc mc ms X ls H locs cells slots Y)
theorem V_aloadN {i : Nat} (hd : decode M.2.1 pc = .ok (.aload i, 2)) (hl : lo[i]? = some (some .null)) (k : pV Γ M (pc + 2) lo (.null :: st) n G bc bs Q) : pV Γ M pc lo (st) n G bc bs Q :=
  fun p e s m args below meth c R A Qc mc ms X ls H locs cells slots Y => lv_aloadN X.1 X.2.1 hd (Y.1.get hl) (k p e s m args below meth c R A Qc mc ms X ls H locs cells slots Y)
theorem V_iadd {x y : Int32} (hd : decode M.2.1 pc = .ok (.iadd, 1)) (k : pV Γ M (pc + 1) lo (.int (x + y) :: st) n G bc bs Q) : pV Γ M pc lo (.int y :: .int x :: st) n G bc bs Q :=
  fun p e s m args below meth c R A Qc mc ms X ls H locs cells slots Y => lv_iadd X.1 X.2.1 hd (k p e s m args below meth c R A Qc mc ms X ls H locs cells slots Y)
theorem V_isub {x y : Int32} (hd : decode M.2.1 pc = .ok (.isub, 1)) (k : pV Γ M (pc + 1) lo (.int (x - y) :: st) n G bc bs Q) : pV Γ M pc lo (.int y :: .int x :: st) n G bc bs Q :=
  fun p e s m args below meth c R A Qc mc ms X ls H locs cells slots Y => lv_isub X.1 X.2.1 hd (k p e s m args below meth c R A Qc mc ms X ls H locs cells slots Y)
theorem V_imul {x y : Int32} (hd : decode M.2.1 pc = .ok (.imul, 1)) (k : pV Γ M (pc + 1) lo (.int (x * y) :: st) n G bc bs Q) : pV Γ M pc lo (.int y :: .int x :: st) n G bc bs Q :=
  fun p e s m args below meth c R A Qc mc ms X ls H locs cells slots Y => lv_imul X.1 X.2.1 hd (k p e s m args below meth c R A Qc mc ms X ls H locs cells slots Y)
theorem V_iand {x y : Int32} (hd : decode M.2.1 pc = .ok (.iand, 1)) (k : pV Γ M (pc + 1) lo (.int (x &&& y) :: st) n G bc bs Q) : pV Γ M pc lo (.int y :: .int x :: st) n G bc bs Q :=
  fun p e s m args below meth c R A Qc mc ms X ls H locs cells slots Y => lv_iand X.1 X.2.1 hd (k p e s m args below meth c R A Qc mc ms X ls H locs cells slots Y)
theorem V_idiv {x y : Int32} (hd : decode M.2.1 pc = .ok (.idiv, 1)) (hne : ¬ y = 0) (k : pV Γ M (pc + 1) lo (.int (x / y) :: st) n G bc bs Q) : pV Γ M pc lo (.int y :: .int x :: st) n G bc bs Q :=
  fun p e s m args below meth c R A Qc mc ms X ls H locs cells slots Y => lv_idiv X.1 X.2.1 hd hne (k p e s m args below meth c R A Qc mc ms X ls H locs cells slots Y)
theorem V_irem {x y : Int32} (hd : decode M.2.1 pc = .ok (.irem, 1)) (hne : ¬ y = 0) (k : pV Γ M (pc + 1) lo (.int (x - x / y * y) :: st) n G bc bs Q) : pV Γ M pc lo (.int y :: .int x :: st) n G bc bs Q :=
  fun p e s m args below meth c R A Qc mc ms X ls H locs cells slots Y => lv_irem X.1 X.2.1 hd hne (k p e s m args below meth c R A Qc mc ms X ls H locs cells slots Y)
theorem V_ineg {x : Int32} (hd : decode M.2.1 pc = .ok (.ineg, 1)) (k : pV Γ M (pc + 1) lo (.int (-x) :: st) n G bc bs Q) : pV Γ M pc lo (.int x :: st) n G bc bs Q :=
  fun p e s m args below meth c R A Qc mc ms X ls H locs cells slots Y => lv_ineg X.1 X.2.1 hd (k p e s m args below meth c R A Qc mc ms X ls H locs cells slots Y)
theorem V_dup {u : Value} (hd : decode M.2.1 pc = .ok (.dup, 1)) (hu : u.category = 1) (k : pV Γ M (pc + 1) lo (u :: u :: st) n G bc bs Q) : pV Γ M pc lo (u :: st) n G bc bs Q :=
  fun p e s m args below meth c R A Qc mc ms X ls H locs cells slots Y => lv_dup X.1 X.2.1 hd hu (k p e s m args below meth c R A Qc mc ms X ls H locs cells slots Y)
theorem V_pop {u : Value} (hd : decode M.2.1 pc = .ok (.pop, 1)) (hu : u.category = 1) (k : pV Γ M (pc + 1) lo (st) n G bc bs Q) : pV Γ M pc lo (u :: st) n G bc bs Q :=
  fun p e s m args below meth c R A Qc mc ms X ls H locs cells slots Y => lv_pop X.1 X.2.1 hd hu (k p e s m args below meth c R A Qc mc ms X ls H locs cells slots Y)
theorem V_dup2 {u v : Value} (hd : decode M.2.1 pc = .ok (.dup2, 1)) (hu : u.category = 1) (hv : v.category = 1) (k : pV Γ M (pc + 1) lo (u :: v :: u :: v :: st) n G bc bs Q) : pV Γ M pc lo (u :: v :: st) n G bc bs Q :=
  fun p e s m args below meth c R A Qc mc ms X ls H locs cells slots Y => lv_dup2_11 X.1 X.2.1 hd hu hv (k p e s m args below meth c R A Qc mc ms X ls H locs cells slots Y)
theorem V_dup_x1 {u v : Value} (hd : decode M.2.1 pc = .ok (.dup_x1, 1)) (hu : u.category = 1) (hv : v.category = 1) (k : pV Γ M (pc + 1) lo (u :: v :: u :: st) n G bc bs Q) : pV Γ M pc lo (u :: v :: st) n G bc bs Q :=
  fun p e s m args below meth c R A Qc mc ms X ls H locs cells slots Y => lv_dup_x1 X.1 X.2.1 hd hu hv (k p e s m args below meth c R A Qc mc ms X ls H locs cells slots Y)
theorem V_istore_n {i : Fin 4} {x : Int32} (hd : decode M.2.1 pc = .ok (.istore_n i, 1)) (hi : (i : Nat) < lo.length) (k : pV Γ M (pc + 1) (lo.set (i : Nat) (some (.int x))) st n G bc bs Q) : pV Γ M pc lo (.int x :: st) n G bc bs Q := by
  intro p e s m args below meth c R A Qc mc ms X ls H locs cells slots Y
  obtain ⟨⟨lv, h1, h2, h3⟩, Y2⟩ := Y
  refine lv_istore_n X.1 X.2.1 hd rfl h1 (by rw [← h2]; exact hi) rfl fun ls' h' => ?_
  exact k p e s m args below meth c R A Qc mc ms X ls' H locs cells slots ⟨pmL.set h2 h3 rfl h', Y2⟩
theorem V_istore {i : Nat} {x : Int32} (hd : decode M.2.1 pc = .ok (.istore i, 2)) (hi : i < lo.length) (k : pV Γ M (pc + 2) (lo.set i (some (.int x))) st n G bc bs Q) : pV Γ M pc lo (.int x :: st) n G bc bs Q := by
  intro p e s m args below meth c R A Qc mc ms X ls H locs cells slots Y
  obtain ⟨⟨lv, h1, h2, h3⟩, Y2⟩ := Y
  refine lv_istore X.1 X.2.1 hd h1 (by rw [← h2]; exact hi) rfl fun ls' h' => ?_
  exact k p e s m args below meth c R A Qc mc ms X ls' H locs cells slots ⟨pmL.set h2 h3 rfl h', Y2⟩
theorem V_astore_n {i : Fin 4} {x : Nat} (hd : decode M.2.1 pc = .ok (.astore_n i, 1)) (hi : (i : Nat) < lo.length) (k : pV Γ M (pc + 1) (lo.set (i : Nat) (some (.ref x))) st n G bc bs Q) : pV Γ M pc lo (.ref x :: st) n G bc bs Q := by
  intro p e s m args below meth c R A Qc mc ms X ls H locs cells slots Y
  obtain ⟨⟨lv, h1, h2, h3⟩, Y2⟩ := Y
  refine lv_astore_n X.1 X.2.1 hd rfl h1 (by rw [← h2]; exact hi) rfl fun ls' h' => ?_
  exact k p e s m args below meth c R A Qc mc ms X ls' H locs cells slots ⟨pmL.set h2 h3 rfl h', Y2⟩
theorem V_astore {i : Nat} {x : Nat} (hd : decode M.2.1 pc = .ok (.astore i, 2)) (hi : i < lo.length) (k : pV Γ M (pc + 2) (lo.set i (some (.ref x))) st n G bc bs Q) : pV Γ M pc lo (.ref x :: st) n G bc bs Q := by
  intro p e s m args below meth c R A Qc mc ms X ls H locs cells slots Y
  obtain ⟨⟨lv, h1, h2, h3⟩, Y2⟩ := Y
  refine lv_astore X.1 X.2.1 hd h1 (by rw [← h2]; exact hi) rfl fun ls' h' => ?_
  exact k p e s m args below meth c R A Qc mc ms X ls' H locs cells slots ⟨pmL.set h2 h3 rfl h', Y2⟩
theorem V_astore_nN {i : Fin 4} (hd : decode M.2.1 pc = .ok (.astore_n i, 1)) (hi : (i : Nat) < lo.length) (k : pV Γ M (pc + 1) (lo.set (i : Nat) (some (.null))) st n G bc bs Q) : pV Γ M pc lo (.null :: st) n G bc bs Q := by
  intro p e s m args below meth c R A Qc mc ms X ls H locs cells slots Y
  obtain ⟨⟨lv, h1, h2, h3⟩, Y2⟩ := Y
  refine lv_astore_nN X.1 X.2.1 hd rfl h1 (by rw [← h2]; exact hi) rfl fun ls' h' => ?_
  exact k p e s m args below meth c R A Qc mc ms X ls' H locs cells slots ⟨pmL.set h2 h3 rfl h', Y2⟩
theorem V_astoreN {i : Nat} (hd : decode M.2.1 pc = .ok (.astore i, 2)) (hi : i < lo.length) (k : pV Γ M (pc + 2) (lo.set i (some (.null))) st n G bc bs Q) : pV Γ M pc lo (.null :: st) n G bc bs Q := by
  intro p e s m args below meth c R A Qc mc ms X ls H locs cells slots Y
  obtain ⟨⟨lv, h1, h2, h3⟩, Y2⟩ := Y
  refine lv_astoreN X.1 X.2.1 hd h1 (by rw [← h2]; exact hi) rfl fun ls' h' => ?_
  exact k p e s m args below meth c R A Qc mc ms X ls' H locs cells slots ⟨pmL.set h2 h3 rfl h', Y2⟩
theorem V_iinc {i : Nat} {z : Int} {x v : Int32} (hd : decode M.2.1 pc = .ok (.iinc i z, 3)) (hl : lo[i]? = some (some (.int x))) (hv : x + Int32.ofInt z = v) (k : pV Γ M (pc + 3) (lo.set i (some (.int v))) st n G bc bs Q) : pV Γ M pc lo st n G bc bs Q := by
  intro p e s m args below meth c R A Qc mc ms X ls H locs cells slots Y
  obtain ⟨⟨lv, h1, h2, h3⟩, Y2⟩ := Y
  obtain ⟨j, hj⟩ := List.getElem?_of_mem (h3 i _ hl).1
  have hi : i < lo.length := (List.getElem?_eq_some_iff.mp hl).1
  refine lv_iinc X.1 X.2.1 hd h1 hj hv (by rw [← h2]; exact hi) rfl fun ls' h' => ?_
  exact k p e s m args below meth c R A Qc mc ms X ls' H locs cells slots ⟨pmL.set h2 h3 rfl h', Y2⟩
theorem V_goto {off : Int} {tgt : Nat} (hd : decode M.2.1 pc = .ok (.goto off, 3)) (ht : (pc : Int) + off = (tgt : Int)) (k : pV Γ M tgt lo st n G bc bs Q) : pV Γ M pc lo st n G bc bs Q :=
  fun p e s m args below meth c R A Qc mc ms X ls H locs cells slots Y => lv_goto X.1 X.2.1 hd ht (k p e s m args below meth c R A Qc mc ms X ls H locs cells slots Y)
theorem V_icmp_eq {x y : Int32} {off : Int} {tgt : Nat} (hd : decode M.2.1 pc = .ok (.if_icmp .eq off, 3)) (ht : (pc : Int) + off = (tgt : Int)) (kt : x = y → pV Γ M tgt lo st n G bc bs Q) (kf : ¬ (x = y) → pV Γ M (pc + 3) lo st n G bc bs Q) : pV Γ M pc lo (.int y :: .int x :: st) n G bc bs Q :=
  fun p e s m args below meth c R A Qc mc ms X ls H locs cells slots Y => lv_icmp_eq X.1 X.2.1 hd ht (fun h => kt h p e s m args below meth c R A Qc mc ms X ls H locs cells slots Y) (fun h => kf h p e s m args below meth c R A Qc mc ms X ls H locs cells slots Y)
theorem V_if_eq {x : Int32} {off : Int} {tgt : Nat} (hd : decode M.2.1 pc = .ok (.ifCond .eq off, 3)) (ht : (pc : Int) + off = (tgt : Int)) (kt : x = 0 → pV Γ M tgt lo st n G bc bs Q) (kf : ¬ (x = 0) → pV Γ M (pc + 3) lo st n G bc bs Q) : pV Γ M pc lo (.int x :: st) n G bc bs Q :=
  fun p e s m args below meth c R A Qc mc ms X ls H locs cells slots Y => lv_if_eq X.1 X.2.1 hd ht (fun h => kt h p e s m args below meth c R A Qc mc ms X ls H locs cells slots Y) (fun h => kf h p e s m args below meth c R A Qc mc ms X ls H locs cells slots Y)
theorem V_icmp_ne {x y : Int32} {off : Int} {tgt : Nat} (hd : decode M.2.1 pc = .ok (.if_icmp .ne off, 3)) (ht : (pc : Int) + off = (tgt : Int)) (kt : ¬ x = y → pV Γ M tgt lo st n G bc bs Q) (kf : x = y → pV Γ M (pc + 3) lo st n G bc bs Q) : pV Γ M pc lo (.int y :: .int x :: st) n G bc bs Q :=
  fun p e s m args below meth c R A Qc mc ms X ls H locs cells slots Y => lv_icmp_ne X.1 X.2.1 hd ht (fun h => kt h p e s m args below meth c R A Qc mc ms X ls H locs cells slots Y) (fun h => kf h p e s m args below meth c R A Qc mc ms X ls H locs cells slots Y)
theorem V_if_ne {x : Int32} {off : Int} {tgt : Nat} (hd : decode M.2.1 pc = .ok (.ifCond .ne off, 3)) (ht : (pc : Int) + off = (tgt : Int)) (kt : ¬ x = 0 → pV Γ M tgt lo st n G bc bs Q) (kf : x = 0 → pV Γ M (pc + 3) lo st n G bc bs Q) : pV Γ M pc lo (.int x :: st) n G bc bs Q :=
  fun p e s m args below meth c R A Qc mc ms X ls H locs cells slots Y => lv_if_ne X.1 X.2.1 hd ht (fun h => kt h p e s m args below meth c R A Qc mc ms X ls H locs cells slots Y) (fun h => kf h p e s m args below meth c R A Qc mc ms X ls H locs cells slots Y)
theorem V_icmp_lt {x y : Int32} {off : Int} {tgt : Nat} (hd : decode M.2.1 pc = .ok (.if_icmp .lt off, 3)) (ht : (pc : Int) + off = (tgt : Int)) (kt : x < y → pV Γ M tgt lo st n G bc bs Q) (kf : ¬ (x < y) → pV Γ M (pc + 3) lo st n G bc bs Q) : pV Γ M pc lo (.int y :: .int x :: st) n G bc bs Q :=
  fun p e s m args below meth c R A Qc mc ms X ls H locs cells slots Y => lv_icmp_lt X.1 X.2.1 hd ht (fun h => kt h p e s m args below meth c R A Qc mc ms X ls H locs cells slots Y) (fun h => kf h p e s m args below meth c R A Qc mc ms X ls H locs cells slots Y)
theorem V_if_lt {x : Int32} {off : Int} {tgt : Nat} (hd : decode M.2.1 pc = .ok (.ifCond .lt off, 3)) (ht : (pc : Int) + off = (tgt : Int)) (kt : x < 0 → pV Γ M tgt lo st n G bc bs Q) (kf : ¬ (x < 0) → pV Γ M (pc + 3) lo st n G bc bs Q) : pV Γ M pc lo (.int x :: st) n G bc bs Q :=
  fun p e s m args below meth c R A Qc mc ms X ls H locs cells slots Y => lv_if_lt X.1 X.2.1 hd ht (fun h => kt h p e s m args below meth c R A Qc mc ms X ls H locs cells slots Y) (fun h => kf h p e s m args below meth c R A Qc mc ms X ls H locs cells slots Y)
theorem V_icmp_ge {x y : Int32} {off : Int} {tgt : Nat} (hd : decode M.2.1 pc = .ok (.if_icmp .ge off, 3)) (ht : (pc : Int) + off = (tgt : Int)) (kt : y ≤ x → pV Γ M tgt lo st n G bc bs Q) (kf : ¬ (y ≤ x) → pV Γ M (pc + 3) lo st n G bc bs Q) : pV Γ M pc lo (.int y :: .int x :: st) n G bc bs Q :=
  fun p e s m args below meth c R A Qc mc ms X ls H locs cells slots Y => lv_icmp_ge X.1 X.2.1 hd ht (fun h => kt h p e s m args below meth c R A Qc mc ms X ls H locs cells slots Y) (fun h => kf h p e s m args below meth c R A Qc mc ms X ls H locs cells slots Y)
theorem V_if_ge {x : Int32} {off : Int} {tgt : Nat} (hd : decode M.2.1 pc = .ok (.ifCond .ge off, 3)) (ht : (pc : Int) + off = (tgt : Int)) (kt : 0 ≤ x → pV Γ M tgt lo st n G bc bs Q) (kf : ¬ (0 ≤ x) → pV Γ M (pc + 3) lo st n G bc bs Q) : pV Γ M pc lo (.int x :: st) n G bc bs Q :=
  fun p e s m args below meth c R A Qc mc ms X ls H locs cells slots Y => lv_if_ge X.1 X.2.1 hd ht (fun h => kt h p e s m args below meth c R A Qc mc ms X ls H locs cells slots Y) (fun h => kf h p e s m args below meth c R A Qc mc ms X ls H locs cells slots Y)
theorem V_icmp_gt {x y : Int32} {off : Int} {tgt : Nat} (hd : decode M.2.1 pc = .ok (.if_icmp .gt off, 3)) (ht : (pc : Int) + off = (tgt : Int)) (kt : y < x → pV Γ M tgt lo st n G bc bs Q) (kf : ¬ (y < x) → pV Γ M (pc + 3) lo st n G bc bs Q) : pV Γ M pc lo (.int y :: .int x :: st) n G bc bs Q :=
  fun p e s m args below meth c R A Qc mc ms X ls H locs cells slots Y => lv_icmp_gt X.1 X.2.1 hd ht (fun h => kt h p e s m args below meth c R A Qc mc ms X ls H locs cells slots Y) (fun h => kf h p e s m args below meth c R A Qc mc ms X ls H locs cells slots Y)
theorem V_if_gt {x : Int32} {off : Int} {tgt : Nat} (hd : decode M.2.1 pc = .ok (.ifCond .gt off, 3)) (ht : (pc : Int) + off = (tgt : Int)) (kt : 0 < x → pV Γ M tgt lo st n G bc bs Q) (kf : ¬ (0 < x) → pV Γ M (pc + 3) lo st n G bc bs Q) : pV Γ M pc lo (.int x :: st) n G bc bs Q :=
  fun p e s m args below meth c R A Qc mc ms X ls H locs cells slots Y => lv_if_gt X.1 X.2.1 hd ht (fun h => kt h p e s m args below meth c R A Qc mc ms X ls H locs cells slots Y) (fun h => kf h p e s m args below meth c R A Qc mc ms X ls H locs cells slots Y)
theorem V_icmp_le {x y : Int32} {off : Int} {tgt : Nat} (hd : decode M.2.1 pc = .ok (.if_icmp .le off, 3)) (ht : (pc : Int) + off = (tgt : Int)) (kt : x ≤ y → pV Γ M tgt lo st n G bc bs Q) (kf : ¬ (x ≤ y) → pV Γ M (pc + 3) lo st n G bc bs Q) : pV Γ M pc lo (.int y :: .int x :: st) n G bc bs Q :=
  fun p e s m args below meth c R A Qc mc ms X ls H locs cells slots Y => lv_icmp_le X.1 X.2.1 hd ht (fun h => kt h p e s m args below meth c R A Qc mc ms X ls H locs cells slots Y) (fun h => kf h p e s m args below meth c R A Qc mc ms X ls H locs cells slots Y)
theorem V_if_le {x : Int32} {off : Int} {tgt : Nat} (hd : decode M.2.1 pc = .ok (.ifCond .le off, 3)) (ht : (pc : Int) + off = (tgt : Int)) (kt : x ≤ 0 → pV Γ M tgt lo st n G bc bs Q) (kf : ¬ (x ≤ 0) → pV Γ M (pc + 3) lo st n G bc bs Q) : pV Γ M pc lo (.int x :: st) n G bc bs Q :=
  fun p e s m args below meth c R A Qc mc ms X ls H locs cells slots Y => lv_if_le X.1 X.2.1 hd ht (fun h => kt h p e s m args below meth c R A Qc mc ms X ls H locs cells slots Y) (fun h => kf h p e s m args below meth c R A Qc mc ms X ls H locs cells slots Y)
theorem V_ifnull {x : Nat} {off : Int} (hd : decode M.2.1 pc = .ok (.ifnull off, 3)) (k : pV Γ M (pc + 3) lo st n G bc bs Q) : pV Γ M pc lo (.ref x :: st) n G bc bs Q :=
  fun p e s m args below meth c R A Qc mc ms X ls H locs cells slots Y => lv_ifnull X.1 X.2.1 hd (k p e s m args below meth c R A Qc mc ms X ls H locs cells slots Y)
theorem V_ifnullN {off : Int} {tgt : Nat} (hd : decode M.2.1 pc = .ok (.ifnull off, 3)) (ht : (pc : Int) + off = (tgt : Int)) (k : pV Γ M tgt lo st n G bc bs Q) : pV Γ M pc lo (.null :: st) n G bc bs Q :=
  fun p e s m args below meth c R A Qc mc ms X ls H locs cells slots Y => lv_ifnullN X.1 X.2.1 hd ht (k p e s m args below meth c R A Qc mc ms X ls H locs cells slots Y)
theorem V_ifnonnull {x : Nat} {off : Int} {tgt : Nat} (hd : decode M.2.1 pc = .ok (.ifnonnull off, 3)) (ht : (pc : Int) + off = (tgt : Int)) (k : pV Γ M tgt lo st n G bc bs Q) : pV Γ M pc lo (.ref x :: st) n G bc bs Q :=
  fun p e s m args below meth c R A Qc mc ms X ls H locs cells slots Y => lv_ifnonnull X.1 X.2.1 hd ht (k p e s m args below meth c R A Qc mc ms X ls H locs cells slots Y)
theorem V_ifnonnullN {off : Int} (hd : decode M.2.1 pc = .ok (.ifnonnull off, 3)) (k : pV Γ M (pc + 3) lo st n G bc bs Q) : pV Γ M pc lo (.null :: st) n G bc bs Q :=
  fun p e s m args below meth c R A Qc mc ms X ls H locs cells slots Y => lv_ifnonnullN X.1 X.2.1 hd (k p e s m args below meth c R A Qc mc ms X ls H locs cells slots Y)
theorem V_tableIn {dflt l0 h0 : Int} {offs : Array Int} {len : Nat} {x : Int32} {off : Int} {tgt : Nat} (hd : decode M.2.1 pc = .ok (.tableswitch dflt l0 h0 offs, len)) (h1 : ¬ x.toInt < l0) (h2 : ¬ h0 < x.toInt) (ho : offs[(x.toInt - l0).toNat]? = some off) (ht : (pc : Int) + off = (tgt : Int)) (k : pV Γ M tgt lo st n G bc bs Q) : pV Γ M pc lo (.int x :: st) n G bc bs Q :=
  fun p e s m args below meth c R A Qc mc ms X ls H locs cells slots Y => lv_tableIn X.1 X.2.1 hd h1 h2 ho ht (k p e s m args below meth c R A Qc mc ms X ls H locs cells slots Y)
theorem V_tableOut {dflt l0 h0 : Int} {offs : Array Int} {len : Nat} {x : Int32} {tgt : Nat} (hd : decode M.2.1 pc = .ok (.tableswitch dflt l0 h0 offs, len)) (h : x.toInt < l0 ∨ h0 < x.toInt) (ht : (pc : Int) + dflt = (tgt : Int)) (k : pV Γ M tgt lo st n G bc bs Q) : pV Γ M pc lo (.int x :: st) n G bc bs Q :=
  fun p e s m args below meth c R A Qc mc ms X ls H locs cells slots Y => lv_tableOut X.1 X.2.1 hd h ht (k p e s m args below meth c R A Qc mc ms X ls H locs cells slots Y)
-- returns
theorem V_ret {v : Option Value} (hk : ∀ (p : Program) (e : Env) (s : State) (m : MethodId) (args : Array Value) (below : List Frame) (meth : Method) (c : Code) (R : Room) (A : Nat → Prop) (Qc : Array Value → State → Outcome → State → Prop) (ls : Array Slot) (H : Heap) (locs : List Loc) (cells slots : Nat), p.tables.exec = Jvm.exec → c.code = M.2.1 → meth.sig.returnType = M.2.2.2.1 → meth.locks = false → (∀ t : State, t.heap = H → s.WarmedH t.vm → Qc args s (.returned v) t) → (∀ q ∈ locs, A q.base) → W p Γ.1 e R s m args below meth c H locs cells slots (MQ below Qc args s cells slots A) (F0 m pc ls st)) (hQ : Q v n G) : pV Γ M pc lo st n G bc bs Q := by
  intro p e s m args below meth c R A Qc mc ms X ls H locs cells slots Y
  obtain ⟨x1, x2, x3, x4, x5, x6, x7, x8, x9, x10, x11, x12⟩ := X
  obtain ⟨y1, y2, y3, y4, y5, y6, y7⟩ := Y
  refine W.widen (k := mc) (n := ms) (by omega) (by omega) ?_
  exact hk p e s m args below meth c R A Qc ls H locs mc ms x1 x2 x4 x5 (fun t ht hW => x12 v n G t hQ (by rw [ht]; exact y2) (by rw [ht]; exact y3) y4 (y5.F ht)) y5.2.2
theorem V_ireturn {x : Int32} (hd : decode M.2.1 pc = .ok (.ireturn, 1)) (hr : M.2.2.2.1 = some .int) (hQ : Q (some (.int x)) n G) : pV Γ M pc lo [.int x] n G bc bs Q :=
  V_ret (fun p e s m args below meth c R A Qc ls H locs cells slots h1 h2 h3 h4 h5 h6 => W.iret h1 h2 (h3.trans hr) h5 h6 hd h4) hQ
theorem V_zreturn {x : Int32} (hd : decode M.2.1 pc = .ok (.ireturn, 1)) (hr : M.2.2.2.1 = some .boolean) (hx : x = nI 0 ∨ x = nI 1) (hQ : Q (some (.int x)) n G) : pV Γ M pc lo [.int x] n G bc bs Q :=
  V_ret (fun p e s m args below meth c R A Qc ls H locs cells slots h1 h2 h3 h4 h5 h6 => W.zret h1 h2 (h3.trans hr) (by rcases hx with rfl | rfl <;> rfl) h5 h6 hd h4) hQ
theorem V_areturn {v : Value} {cn : String} (hd : decode M.2.1 pc = .ok (.areturn, 1)) (hr : M.2.2.2.1 = some (.object cn)) (hv : v = .null ∨ ∃ a, v = .ref a) (hQ : Q (some v) n G) : pV Γ M pc lo [v] n G bc bs Q :=
  V_ret (fun p e s m args below meth c R A Qc ls H locs cells slots h1 h2 h3 h4 h5 h6 => W.aret h1 h2 (h3.trans hr) (Or.inl ⟨_, rfl⟩) hv h5 h6 hd h4) hQ
theorem V_return (hd : decode M.2.1 pc = .ok (.return_, 1)) (hr : M.2.2.2.1 = none) (hQ : Q none n G) : pV Γ M pc lo [] n G bc bs Q :=
  V_ret (fun p e s m args below meth c R A Qc ls H locs cells slots h1 h2 h3 h4 h5 h6 => W.vret h1 h2 (h3.trans hr) h5 h6 hd h4) hQ
end VROWS
end
section
/-! V's rows of fields, arrays, new objects. -/
def okF (own : String) (idx ci k : Nat) : Prop := ∃ (C : String) (T : u_T) (N : Nat), pmCl[ci]? = some (C, T, N) ∧ k < N ∧ (T k).1 = C ∧ (∀ w ∈ u_ws C T N, w ∈ pmWs) ∧
  (Jvm.Cond.fieldLink own idx C (T k).2.1 (T k).2.2.1 ∈ pmWs ∨ ∃ host, Jvm.Cond.fieldLinkNest own idx C (T k).2.1 (T k).2.2.1 host ∈ pmWs)
def okP (ci k : Nat) (fin : Bool) (ty : FieldType) : Prop := ∃ (C : String) (T : u_T) (N : Nat) (ty0 : Nat → FieldType), pmCl[ci]? = some (C, T, N) ∧ k < N ∧ (∀ j, j < N → parseFieldDescriptor (T j).2.2.1 = some (ty0 j)) ∧ (∀ a, a < N → ∀ b, b < N → a ≠ b → (T a).2.1 ≠ (T b).2.1) ∧ (T k).2.2.2 = fin ∧ ty0 k = ty
def okN (own : String) (idx ci N : Nat) (fs : List Value) : Prop := ∃ (C : String) (T : u_T) (ty0 : Nat → FieldType), pmCl[ci]? = some (C, T, N) ∧ (∀ w ∈ u_ws C T N, w ∈ pmWs) ∧ (∀ j, j < N → parseFieldDescriptor (T j).2.2.1 = some (ty0 j)) ∧ Jvm.Cond.classLink own idx C ∈ pmWs ∧ Jvm.Cond.instantiable C N ∈ pmWs ∧ Jvm.Cond.initialized C ∈ pmWs ∧ ∀ j, j < N → defaultValue (ty0 j) = vp_V fs j
def okPF (own : String) (idx ci k : Nat) (ty : FieldType) : Prop := ∃ (C : String) (T : u_T) (N : Nat) (ty0 : Nat → FieldType), pmCl[ci]? = some (C, T, N) ∧ k < N ∧ (T k).1 = C ∧ C = own ∧ (∀ w ∈ u_ws C T N, w ∈ pmWs) ∧ Jvm.Cond.fieldLink own idx C (T k).2.1 (T k).2.2.1 ∈ pmWs ∧
  (∀ j, j < N → parseFieldDescriptor (T j).2.2.1 = some (ty0 j)) ∧ (∀ a, a < N → ∀ b, b < N → a ≠ b → (T a).2.1 ≠ (T b).2.1) ∧ (T k).2.2.2 = true ∧ ty0 k = ty
section VHEAP
variable {Γ : pmE} {M : pmM} {pc : Nat} {lo : pmLo} {st : List Value} {n : Nat} {G : pmG} {bc bs : Nat} {Q : pmPost}
theorem pm_one {Γ : pmE} {G : pmG} {H : Heap} (h : pmR Γ G H) {a : Nat} {e : pmC} (ha : G a = some e) : va_P Γ.2.1 pmCl [(a, pmT Γ.2.2.1 e)] H := by
  intro k q hk
  cases k with
  | zero => simp at hk; subst hk; exact h a e ha
  | succ k => simp at hk
theorem pm_vk {Γ : pmE} {s : State} (h : pmK Γ s) : va_K Γ.2.1 pmCl [] s := ⟨h.2.1, fun k q hk => by simp at hk⟩
theorem V_getf {idx ci k a : Nat} {fs : List Value} {v : Value} (hd : decode M.2.1 pc = .ok (.getfield idx, 3)) (hf : okF M.1.cls idx ci k) (hG : G a = some (.inr (ci, fs))) (hv : fs[k]? = some v) (kk : pV Γ M (pc + 3) lo (v :: st) n G bc bs Q) : pV Γ M pc lo (.ref a :: st) n G bc bs Q := by
  intro p e s m args below meth c R A Qc mc ms X ls H locs cells slots Y
  have hW := kk p e s m args below meth c R A Qc mc ms X ls H locs cells slots Y
  obtain ⟨x1, x2, x3, x4, x5, x6, x7, x8, x9, x10, x11, x12⟩ := X
  obtain ⟨C, T, N, hc, hk, hT, hin, hl⟩ := hf
  have hP : va_P Γ.2.1 pmCl [(a, .inr (ci, fs))] H := pm_one Y.2.2.1 hG
  have hts : ∀ w ∈ pmWs, w.before args s = true := fun w h => x8.1 w h args
  rcases hl with hl | ⟨host, hl⟩
  · exact va_get x1 x2 hts hin x7 (pm_vk x8) hP 0 rfl hc k hk (hts _ hl) (fun x h => hT ▸ h) hv hd hW
  · exact va_getN x1 x2 hts hin x7 (pm_vk x8) hP 0 rfl hc k hk (hts _ hl) (fun x h => hT ▸ h) hv hd hW
theorem V_putf {idx ci k a : Nat} {fs : List Value} {v : Value} {u : Value} {ty : FieldType} (hd : decode M.2.1 pc = .ok (.putfield idx, 3)) (hf : okF M.1.cls idx ci k) (hp : okP ci k false ty) (hG : G a = some (.inr (ci, fs))) (hu : fs[k]? = some u) (hn : narrow ty v = v) (hfit : fits ty v = true)
    (kk : ∀ G' : pmG, G' a = some (.inr (ci, fs.set k v)) → (∀ q, q ≠ a → G' q = G q) → pV Γ M (pc + 3) lo st n G' bc bs Q) : pV Γ M pc lo (v :: .ref a :: st) n G bc bs Q := by
  have hl : k < fs.length := (List.getElem?_eq_some_iff.mp hu).1
  intro p e s m args below meth c R A Qc mc ms X ls H locs cells slots Y
  have hW := kk _ (pmSet_self _ _ _) (fun q h => pmSet_ne _ _ h) p e s m args below meth c R A Qc mc ms X
  obtain ⟨x1, x2, x3, x4, x5, x6, x7, x8, x9, x10, x11, x12⟩ := X
  obtain ⟨y1, y2, y3, y4, y5, y6, y7⟩ := Y
  obtain ⟨C, T, N, hc, hk, hT, hin, hlk⟩ := hf
  obtain ⟨C', T', N', ty0, hc', hk', hty, hnm, hfin, hty0⟩ := hp
  have hrr : (C', T', N') = (C, T, N) := Option.some.inj (hc'.symm.trans hc)
  cases hrr
  have hts : ∀ w ∈ pmWs, w.before args s = true := fun w h => x8.1 w h args
  have hK := pm_vk x8
  have hap := va_apart (own := M.1.cls) hts hin ty0 hty hnm hK hc
  obtain ⟨r, h1, cell, q1, q2, q3, q4⟩ := y3 a _ hG
  have hr : r = (C, T, N) := Option.some.inj (h1.symm.trans hc)
  subst hr
  obtain ⟨hS, hfc, kC, hkC, hkind⟩ := hK.1 ci _ hc
  obtain ⟨cf, kf, fi, f, hi, hsl⟩ := hS k hk
  have hlay := hts _ (hin _ (u_in_lay hk))
  unfold u_lay at hlay
  rw [if_neg (by rw [hfin]; decide)] at hlay
  have hst := (u_facts hfc hkC (u_lays hts hin hk) hi).1
  have h6 := u_store hfc hkC hkind hlay hi (by rw [hty k hk, hty0]) hn hfit
  have fin : ∀ H' : Heap, H'[a]? = some (cell.setSlot f.slot v) → H'.size = H.size → (∀ q, q ≠ a → H'[q]? = H[q]?) → W p Γ.1 e R s m args below meth c H' (locs ++ [⟨a, f.slot⟩]) cells slots (MQ below Qc args s mc ms A) (F0 m (pc + 3) ls st) := by
    intro H' e1 e2 e3
    refine hW ls H' (locs ++ [⟨a, f.slot⟩]) cells slots ⟨y1, e2.trans y2, y3.set ?_ e3, pmSet_dom y4 (y4 a _ hG), y5.put e2 e3 (y4 a _ hG), y6, y7⟩
    rw [hsl] at e1
    exact ⟨_, hc, t_OB.to (V := updV (vp_V fs) k v) ⟨_, e1, q2, q3, t_set q4 hap hk v⟩ (fun j _ => vp_updV_set hl v j)⟩
  rcases hlk with hlk | ⟨host, hlk⟩
  · exact W.putK x1 x2 (f := f) ⟨x7, hts _ hlk, ⟨_, _, _, by rw [← hT]; exact hi⟩, hst⟩ (by rw [q2]; exact h6) q1 q3 (by rw [hsl]; exact k2_hasslot (q4 k hk)) rfl rfl hd fin
  · exact va_WputK x1 x2 (f := f) x7 (hts _ hlk) (by rw [← hT]; exact hi) hst (by rw [q2]; exact h6) q1 q3 (by rw [hsl]; exact k2_hasslot (q4 k hk)) rfl rfl hd fin
theorem V_putF {idx ci k a : Nat} {fs : List Value} {v : Value} {u : Value} {ty : FieldType} (hd : decode M.2.1 pc = .ok (.putfield idx, 3)) (hf : okPF M.1.cls idx ci k ty) (hin2 : M.1.name = "<init>") (hG : G a = some (.inr (ci, fs))) (hu : fs[k]? = some u) (hn : narrow ty v = v) (hfit : fits ty v = true)
    (kk : ∀ G' : pmG, G' a = some (.inr (ci, fs.set k v)) → (∀ q, q ≠ a → G' q = G q) → pV Γ M (pc + 3) lo st n G' bc bs Q) : pV Γ M pc lo (v :: .ref a :: st) n G bc bs Q := by
  have hl : k < fs.length := (List.getElem?_eq_some_iff.mp hu).1
  intro p e s m args below meth c R A Qc mc ms X ls H locs cells slots Y
  have hW := kk _ (pmSet_self _ _ _) (fun q h => pmSet_ne _ _ h) p e s m args below meth c R A Qc mc ms X
  obtain ⟨x1, x2, x3, x4, x5, x6, x7, x8, x9, x10, x11, x12⟩ := X
  obtain ⟨y1, y2, y3, y4, y5, y6, y7⟩ := Y
  obtain ⟨C, T, N, ty0, hc, hk, hT, hC, hin, hlk, hty, hnm, hfin, hty0⟩ := hf
  have hts : ∀ w ∈ pmWs, w.before args s = true := fun w h => x8.1 w h args
  have hK := pm_vk x8
  have hap := va_apart (own := M.1.cls) hts hin ty0 hty hnm hK hc
  obtain ⟨r, h1, cell, q1, q2, q3, q4⟩ := y3 a _ hG
  have hr : r = (C, T, N) := Option.some.inj (h1.symm.trans hc)
  subst hr
  obtain ⟨hS, hfc, kC, hkC, hkind⟩ := hK.1 ci _ hc
  obtain ⟨cf, kf, fi, f, hi, hsl⟩ := hS k hk
  have hlay := hts _ (hin _ (u_in_lay hk))
  unfold u_lay at hlay
  rw [if_pos hfin] at hlay
  have hst := (u_facts hfc hkC (u_lays hts hin hk) hi).1
  have hcf : m.cls = cf := by
    obtain ⟨_, _, c', _, _, _, -, -, hf', -, -, -, hown2, -⟩ := Jvm.Cond.laysFinal_spec hlay
    have e1 : c' = cf := by have := hi.symm.trans hf'; simp at this; exact this.1.symm
    rw [hT, hC] at hown2
    rw [← e1]; exact Option.some.inj (x7.symm.trans hown2)
  have h6 := u_fits hfc hkC hkind (Or.inr hlay) hi (by rw [hty k hk, hty0]) hn hfit
  refine W.putFinK x1 x2 x7 (hts _ hlk) (by rw [← hT]; exact hi) hst hcf (x6.trans hin2) (by rw [q2]; exact h6) q1 q3 (by rw [hsl]; exact k2_hasslot (q4 k hk)) rfl rfl hd fun H' e1 e2 e3 => ?_
  refine hW ls H' (locs ++ [⟨a, f.slot⟩]) cells slots ⟨y1, e2.trans y2, y3.set ?_ e3, pmSet_dom y4 (y4 a _ hG), y5.put e2 e3 (y4 a _ hG), y6, y7⟩
  rw [hsl] at e1
  exact ⟨_, hc, t_OB.to (V := updV (vp_V fs) k v) ⟨_, e1, q2, q3, t_set q4 hap hk v⟩ (fun j _ => vp_updV_set hl v j)⟩
theorem pm_grow {A : Nat → Prop} {H0 H H' : Heap} {locs : List Loc} {h : Nat} (hS : va_S A H0 H locs) (hh : H.size = h) (z : H'.size = h + 1) (o : ∀ q : Nat, q < h → H'[q]? = H[q]?) : va_S A H0 H' locs :=
  ⟨Nat.le_trans hS.1 (by omega), fun q h1 h2 => (o q (by have := hS.1; omega)).trans (hS.2.1 q h1 h2), hS.2.2⟩
theorem V_new {idx ci N : Nat} {fs : List Value} {bc' bs' : Nat} (hd : decode M.2.1 pc = .ok (.new idx, 3)) (hf : okN M.1.cls idx ci N fs) (hbc : bc = bc' + 1) (hbs : bs = bs' + N) (kk : ∀ G' : pmG, G' n = some (.inr (ci, fs)) → (∀ q, q ≠ n → G' q = G q) → pV Γ M (pc + 3) lo (.ref n :: st) (n + 1) G' bc' bs' Q) : pV Γ M pc lo st n G bc bs Q := by
  intro p e s m args below meth c R A Qc mc ms X ls H locs cells slots Y
  have hW := kk _ (pmSet_self _ _ _) (fun q h => pmSet_ne _ _ h) p e s m args below meth c R A Qc mc ms X
  obtain ⟨x1, x2, x3, x4, x5, x6, x7, x8, x9, ⟨r1, r2, r3, r4⟩, x11, x12⟩ := X
  obtain ⟨y1, y2, y3, y4, y5, y6, y7⟩ := Y
  obtain ⟨C, T, ty0, hc, hin, hty, hcl, hinst, hini, hfs⟩ := hf
  have hts : ∀ w ∈ pmWs, w.before args s = true := fun w h => x8.1 w h args
  have hKn := x8.2.1 ci _ hc
  have hA : A n := x11 n (by rw [← y2]; exact y5.1)
  refine W.newcK x1 x2 x7 (hts _ hcl) (hts _ hinst) (hts _ hini) rfl hd (by omega) (by omega) hKn.2.1 y2 fun H1 kC hkC e1 z1 o1 => ?_
  exact hW ls H1 locs (cells + 1) (slots + N) ⟨y1, z1, y3.push y2 ⟨_, hc, (u_born ty0 hts hin hKn hkC e1 hty).to hfs⟩ o1, pmSet_dom y4 hA, pm_grow y5 y2 z1 o1, by omega, by omega⟩
theorem V_newi {x : Int32} {N bc' bs' : Nat} (hd : decode M.2.1 pc = .ok (.newarray .int, 2)) (hx : x = nI N) (hN : N < 1000000) (hw : Jvm.Cond.arrayClass .int ∈ pmWs) (hk : pmTy 0 = some .int) (hbc : bc = bc' + 1) (hbs : bs = bs' + N) (kk : ∀ G' : pmG, G' n = some (.inl (0, N, .inl (fun _ => 0))) → (∀ q, q ≠ n → G' q = G q) → pV Γ M (pc + 2) lo (.ref n :: st) (n + 1) G' bc' bs' Q) : pV Γ M pc lo (.int x :: st) n G bc bs Q := by
  intro p e s m args below meth c R A Qc mc ms X ls H locs cells slots Y
  have hW := kk _ (pmSet_self _ _ _) (fun q h => pmSet_ne _ _ h) p e s m args below meth c R A Qc mc ms X
  obtain ⟨x1, x2, x3, x4, x5, x6, x7, x8, x9, ⟨r1, r2, r3, r4⟩, x11, x12⟩ := X
  obtain ⟨y1, y2, y3, y4, y5, y6, y7⟩ := Y
  subst hx
  have hA : A n := x11 n (by rw [← y2]; exact y5.1)
  refine va_newaK (atype := .int) x1 x2 (x8.1 _ hw args) rfl hd rfl (nI_pos (by omega)) (nI_clamp (by omega)) (by show N * 4 ≤ _; omega) (by omega) (by omega) y2 fun H1 cA e1 z1 o1 hAr hNm => ?_
  have hcA : cA = Γ.2.2.1 0 := Option.some.inj (hNm.symm.trans (x8.2.2 0 _ hk).2)
  subst hcA
  exact hW ls H1 locs (cells + 1) (slots + N) ⟨y1, z1, y3.push y2 (by show H1[n]? = some (vp_cell _ _); rw [vp_cell_i]; exact e1) o1, pmSet_dom y4 hA, pm_grow y5 y2 z1 o1, by omega, by omega⟩
theorem V_newz {x : Int32} {N bc' bs' : Nat} (hd : decode M.2.1 pc = .ok (.newarray .boolean, 2)) (hx : x = nI N) (hN : N < 1000000) (hw : Jvm.Cond.arrayClass .boolean ∈ pmWs) (hk : pmTy 1 = some .boolean) (hbc : bc = bc' + 1) (hbs : bs = bs' + N) (kk : ∀ G' : pmG, G' n = some (.inl (1, N, .inl (fun _ => 0))) → (∀ q, q ≠ n → G' q = G q) → pV Γ M (pc + 2) lo (.ref n :: st) (n + 1) G' bc' bs' Q) : pV Γ M pc lo (.int x :: st) n G bc bs Q := by
  intro p e s m args below meth c R A Qc mc ms X ls H locs cells slots Y
  have hW := kk _ (pmSet_self _ _ _) (fun q h => pmSet_ne _ _ h) p e s m args below meth c R A Qc mc ms X
  obtain ⟨x1, x2, x3, x4, x5, x6, x7, x8, x9, ⟨r1, r2, r3, r4⟩, x11, x12⟩ := X
  obtain ⟨y1, y2, y3, y4, y5, y6, y7⟩ := Y
  subst hx
  have hA : A n := x11 n (by rw [← y2]; exact y5.1)
  refine va_newaK (atype := .boolean) x1 x2 (x8.1 _ hw args) rfl hd rfl (nI_pos (by omega)) (nI_clamp (by omega)) (by show N * 1 ≤ _; omega) (by omega) (by omega) y2 fun H1 cA e1 z1 o1 hAr hNm => ?_
  have hcA : cA = Γ.2.2.1 1 := Option.some.inj (hNm.symm.trans (x8.2.2 1 _ hk).2)
  subst hcA
  exact hW ls H1 locs (cells + 1) (slots + N) ⟨y1, z1, y3.push y2 (by show H1[n]? = some (vp_cell _ _); rw [vp_cell_i]; exact e1) o1, pmSet_dom y4 hA, pm_grow y5 y2 z1 o1, by omega, by omega⟩
theorem V_anew {x : Int32} {idx k N bc' bs' : Nat} {C : String} (hd : decode M.2.1 pc = .ok (.anewarray idx, 3)) (hx : x = nI N) (hN : N < 1000000) (hcl : Jvm.Cond.classLink M.1.cls idx C ∈ pmWs) (hov : Jvm.Cond.arrayOver (.object C) ∈ pmWs) (hk : pmTy k = some (.object C)) (hbc : bc = bc' + 1) (hbs : bs = bs' + N) (kk : ∀ G' : pmG, G' n = some (.inl (k, N, .inr (.inr (.inr (.inr (fun _ => none)))))) → (∀ q, q ≠ n → G' q = G q) → pV Γ M (pc + 3) lo (.ref n :: st) (n + 1) G' bc' bs' Q) : pV Γ M pc lo (.int x :: st) n G bc bs Q := by
  intro p e s m args below meth c R A Qc mc ms X ls H locs cells slots Y
  have hW := kk _ (pmSet_self _ _ _) (fun q h => pmSet_ne _ _ h) p e s m args below meth c R A Qc mc ms X
  obtain ⟨x1, x2, x3, x4, x5, x6, x7, x8, x9, ⟨r1, r2, r3, r4⟩, x11, x12⟩ := X
  obtain ⟨y1, y2, y3, y4, y5, y6, y7⟩ := Y
  subst hx
  have hA : A n := x11 n (by rw [← y2]; exact y5.1)
  have hcN : (nI N).toNatClampNeg = N := nI_clamp (by omega)
  refine W.anew x1 x2 x7 (x8.1 _ hcl args) (x8.1 _ hov args) rfl hd rfl (nI_pos (by omega)) (by rw [hcN]; omega) (by omega) (by rw [hcN]; omega) fun cA kA comp f1 f2 f3 f4 => ?_
  rw [hcN]
  subst y2
  generalize hH1 : H.push ({ cls := cA, slots := Array.replicate N .null, vm := .none } : Cell) = H1
  have z1 : H1.size = H.size + 1 := by rw [← hH1, Array.size_push]
  have e1 : H1[H.size]? = some (arrV cA N (fun _ => .null)) := by rw [← hH1, Array.getElem?_push_size, ← arrV_new]
  have o1 : ∀ q : Nat, q < H.size → H1[q]? = H[q]? := fun q hq => by rw [← hH1, Array.getElem?_push, if_neg (Nat.ne_of_lt hq)]
  obtain ⟨kA', comp', g1, g2, g3, g4⟩ := (x8.2.2 k _ hk).2
  have hcA : cA = Γ.2.2.1 k := Option.some.inj (f1.symm.trans g4)
  subst hcA
  exact hW ls H1 locs (cells + 1) (slots + N) ⟨y1, z1, y3.push rfl (by show H1[H.size]? = some (vp_cell _ _); rw [vp_cell_q]; exact e1) o1, pmSet_dom y4 hA, pm_grow y5 rfl z1 o1, by omega, by omega⟩
theorem V_iaload {x : Int32} {a N j : Nat} {f : Nat → Int32} (hd : decode M.2.1 pc = .ok (.iaload, 1)) (hk : pmTy 0 = some .int) (hG : G a = some (.inl (0, N, .inl f))) (hx : x = nI j) (hj : j < N) (hN : N < 2 ^ 31) (kk : pV Γ M (pc + 1) lo (.int (f j) :: st) n G bc bs Q) : pV Γ M pc lo (.int x :: .ref a :: st) n G bc bs Q := by
  intro p e s m args below meth c R A Qc mc ms X ls H locs cells slots Y
  have hW := kk p e s m args below meth c R A Qc mc ms X ls H locs cells slots Y
  subst hx
  have hc := nI_clamp (n := j) (by omega)
  have h1 : H[a]? = some (vp_cell (Γ.2.2.1 0) (N, .inl f)) := Y.2.2.1 a _ hG
  exact W.iald (v := .int (f j)) X.1 X.2.1 h1 ((X.2.2.2.2.2.2.2.1.2.2 0 _ hk).1 N (fun j => .int (f j))) (fun q => by cases q) (by show ¬ (_ ∨ (arrV _ _ _).slots.size ≤ _); rw [arrV_size]; exact nI_in hj hN) (by show (arrV _ _ _).slots[_]? = _; rw [hc, arrV_read _ _ hj]) rfl rfl hd hW
theorem V_baload {x : Int32} {a N j : Nat} {f : Nat → Int32} (hd : decode M.2.1 pc = .ok (.baload, 1)) (hk : pmTy 1 = some .boolean) (hG : G a = some (.inl (1, N, .inl f))) (hx : x = nI j) (hj : j < N) (hN : N < 2 ^ 31) (kk : pV Γ M (pc + 1) lo (.int (f j) :: st) n G bc bs Q) : pV Γ M pc lo (.int x :: .ref a :: st) n G bc bs Q := by
  intro p e s m args below meth c R A Qc mc ms X ls H locs cells slots Y
  have hW := kk p e s m args below meth c R A Qc mc ms X ls H locs cells slots Y
  subst hx
  have hc := nI_clamp (n := j) (by omega)
  have h1 : H[a]? = some (vp_cell (Γ.2.2.1 1) (N, .inl f)) := Y.2.2.1 a _ hG
  exact W.zald (v := .int (f j)) X.1 X.2.1 h1 ((X.2.2.2.2.2.2.2.1.2.2 1 _ hk).1 N (fun j => .int (f j))) (fun q => by cases q) (by show ¬ (_ ∨ (arrV _ _ _).slots.size ≤ _); rw [arrV_size]; exact nI_in hj hN) (by show (arrV _ _ _).slots[_]? = _; rw [hc, arrV_read _ _ hj]) rfl rfl hd hW
theorem V_aaload {x : Int32} {a k N j : Nat} {C : String} {f : Nat → Option Nat} (hd : decode M.2.1 pc = .ok (.aaload, 1)) (hk : pmTy k = some (.object C)) (hG : G a = some (.inl (k, N, .inr (.inr (.inr (.inr f)))))) (hx : x = nI j) (hj : j < N) (hN : N < 2 ^ 31) (kk : pV Γ M (pc + 1) lo (va_rf (f j) :: st) n G bc bs Q) : pV Γ M pc lo (.int x :: .ref a :: st) n G bc bs Q := by
  intro p e s m args below meth c R A Qc mc ms X ls H locs cells slots Y
  have hW := kk p e s m args below meth c R A Qc mc ms X ls H locs cells slots Y
  subst hx
  have hc := nI_clamp (n := j) (by omega)
  have h1 : H[a]? = some (vp_cell (Γ.2.2.1 k) (N, .inr (.inr (.inr (.inr f))))) := Y.2.2.1 a _ hG
  exact W.aald (v := va_rf (f j)) (ty := .object C) X.1 X.2.1 h1 ((X.2.2.2.2.2.2.2.1.2.2 k _ hk).1 N (fun j => va_rf (f j))) rfl (fun q => by cases q) (by show ¬ (_ ∨ (arrV _ _ _).slots.size ≤ _); rw [arrV_size]; exact nI_in hj hN) (by show (arrV _ _ _).slots[_]? = _; rw [hc, arrV_read _ _ hj]) rfl rfl hd hW
theorem V_alen {a k : Nat} {v : Int32} {ty : FieldType} {y : vp_A} (hd : decode M.2.1 pc = .ok (.arraylength, 1)) (hk : pmTy k = some ty) (hG : G a = some (.inl (k, y))) (hv : nI y.1 = v) (kk : pV Γ M (pc + 1) lo (.int v :: st) n G bc bs Q) : pV Γ M pc lo (.ref a :: st) n G bc bs Q := by
  intro p e s m args below meth c R A Qc mc ms X ls H locs cells slots Y
  have hW := kk p e s m args below meth c R A Qc mc ms X ls H locs cells slots Y
  have hP : va_P Γ.2.1 pmCl [(a, .inl (Γ.2.2.1 k, y))] H := pm_one Y.2.2.1 hG
  have hK8 := X.2.2.2.2.2.2.2.1
  exact va_alen (tys := [(Γ.2.2.1 k, ty)]) X.1 X.2.1 ⟨hK8.2.1, fun j q hq => by
    cases j with
    | zero => simp at hq; subst hq; exact hK8.2.2 k _ hk
    | succ j => simp at hq⟩ hP 0 0 rfl rfl hv hd hW
theorem V_iastore {x z : Int32} {a N j : Nat} {f : Nat → Int32} (hd : decode M.2.1 pc = .ok (.iastore, 1)) (hk : pmTy 0 = some .int) (hG : G a = some (.inl (0, N, .inl f))) (hx : x = nI j) (hj : j < N) (hN : N < 2 ^ 31) (kk : ∀ G' : pmG, G' a = some (.inl (0, N, .inl (upd f j z))) → (∀ q, q ≠ a → G' q = G q) → pV Γ M (pc + 1) lo st n G' bc bs Q) : pV Γ M pc lo (.int z :: .int x :: .ref a :: st) n G bc bs Q := by
  intro p e s m args below meth c R A Qc mc ms X ls H locs cells slots Y
  have hW := kk _ (pmSet_self _ _ _) (fun q h => pmSet_ne _ _ h) p e s m args below meth c R A Qc mc ms X
  obtain ⟨x1, x2, x3, x4, x5, x6, x7, x8, x9, x10, x11, x12⟩ := X
  obtain ⟨y1, y2, y3, y4, y5, y6, y7⟩ := Y
  subst hx
  have hc := nI_clamp (n := j) (by omega)
  have h1 : H[a]? = some (vp_cell (Γ.2.2.1 0) (N, .inl f)) := y3 a _ hG
  refine W.iast x1 x2 h1 ((x8.2.2 0 _ hk).1 N (fun j => .int (f j))) (fun q => by cases q) (by show ¬ (_ ∨ (arrV _ _ _).slots.size ≤ _); rw [arrV_size]; exact nI_in hj hN) rfl rfl hd fun H1 e1 z1 oq => ?_
  refine hW ls H1 _ cells slots ⟨y1, z1.trans y2, y3.set ?_ oq, pmSet_dom y4 (y4 a _ hG), y5.put z1 oq (y4 a _ hG), y6, y7⟩
  show H1[a]? = some (vp_cell _ _)
  rw [e1, hc, vp_cell_i, vp_cell_i, arrV_store]
  congr 2
  funext q
  by_cases hq : q = j
  · subst hq
    simp [updV, upd]
  · simp [updV, upd, hq]
theorem V_bastore {x z : Int32} {a N j : Nat} {f : Nat → Int32} (hd : decode M.2.1 pc = .ok (.bastore, 1)) (hk : pmTy 1 = some .boolean) (hG : G a = some (.inl (1, N, .inl f))) (hx : x = nI j) (hj : j < N) (hN : N < 2 ^ 31) (hz : z = nI 0 ∨ z = nI 1) (kk : ∀ G' : pmG, G' a = some (.inl (1, N, .inl (upd f j z))) → (∀ q, q ≠ a → G' q = G q) → pV Γ M (pc + 1) lo st n G' bc bs Q) : pV Γ M pc lo (.int z :: .int x :: .ref a :: st) n G bc bs Q := by
  intro p e s m args below meth c R A Qc mc ms X ls H locs cells slots Y
  have hW := kk _ (pmSet_self _ _ _) (fun q h => pmSet_ne _ _ h) p e s m args below meth c R A Qc mc ms X
  obtain ⟨x1, x2, x3, x4, x5, x6, x7, x8, x9, x10, x11, x12⟩ := X
  obtain ⟨y1, y2, y3, y4, y5, y6, y7⟩ := Y
  subst hx
  have hc := nI_clamp (n := j) (by omega)
  have hnz : vp_nar .boolean z = z := by rcases hz with rfl | rfl <;> rfl
  have h1 : H[a]? = some (vp_cell (Γ.2.2.1 1) (N, .inl f)) := y3 a _ hG
  refine W.zast x1 x2 h1 ((x8.2.2 1 _ hk).1 N (fun j => .int (f j))) (fun q => by cases q) (by show ¬ (_ ∨ (arrV _ _ _).slots.size ≤ _); rw [arrV_size]; exact nI_in hj hN) rfl rfl hd fun H1 e1 z1 oq => ?_
  refine hW ls H1 _ cells slots ⟨y1, z1.trans y2, y3.set ?_ oq, pmSet_dom y4 (y4 a _ hG), y5.put z1 oq (y4 a _ hG), y6, y7⟩
  show H1[a]? = some (vp_cell _ _)
  rw [e1, hc, vp_cell_i, vp_cell_i, arrV_store]
  congr 2
  funext q
  by_cases hq : q = j
  · subst hq
    rcases hz with rfl | rfl <;> (simp [updV, upd]; try rfl)
  · simp [updV, upd, hq]
theorem V_aastore {x : Int32} {a b ci N j : Nat} {fs : List Value} {f : Nat → Option Nat} {r : vw_C} (hd : decode M.2.1 pc = .ok (.aastore, 1)) (hk : pmTy (ci + 2) = some (.object r.1)) (hc0 : pmCl[ci]? = some r) (hG : G a = some (.inl (ci + 2, N, .inr (.inr (.inr (.inr f)))))) (hB : G b = some (.inr (ci, fs))) (hx : x = nI j) (hj : j < N) (hN : N < 2 ^ 31)
    (kk : ∀ G' : pmG, G' a = some (.inl (ci + 2, N, .inr (.inr (.inr (.inr (va_up f j (some b))))))) → (∀ q, q ≠ a → G' q = G q) → pV Γ M (pc + 1) lo st n G' bc bs Q) : pV Γ M pc lo (.ref b :: .int x :: .ref a :: st) n G bc bs Q := by
  intro p e s m args below meth c R A Qc mc ms X ls H locs cells slots Y
  have hW := kk _ (pmSet_self _ _ _) (fun q h => pmSet_ne _ _ h) p e s m args below meth c R A Qc mc ms X
  obtain ⟨x1, x2, x3, x4, x5, x6, x7, x8, x9, x10, x11, x12⟩ := X
  obtain ⟨y1, y2, y3, y4, y5, y6, y7⟩ := Y
  subst hx
  have hc := nI_clamp (n := j) (by omega)
  have h1 : H[a]? = some (vp_cell (Γ.2.2.1 (ci + 2)) (N, .inr (.inr (.inr (.inr f))))) := y3 a _ hG
  obtain ⟨r', hr', cellV, g1, g2, g3, -⟩ := y3 b _ hB
  have hcls := (x8.2.1 ci r hc0).2
  obtain ⟨kA, comp, k1, k2, k3, -⟩ := (x8.2.2 (ci + 2) _ hk).2
  have hcomp : comp = Γ.2.1.1 ci := Option.some.inj (k3.symm.trans hcls.1)
  subst hcomp
  obtain ⟨kC, hkC, -⟩ := hcls.2
  refine W.aast x1 x2 h1 (fun q h => by cases h) (fun h => by cases h) k1 k2 rfl hkC ⟨nI_pos (by omega), by show _ < (arrV _ _ _).slots.size; rw [arrV_size, hc]; exact hj⟩ g1 (fun q h => by rw [g3] at h; cases h) (by rw [g2]; exact hkC) (by rw [g2]; exact va_assign hcls) rfl rfl hd fun H1 e1 z1 oq => ?_
  refine hW ls H1 _ cells slots ⟨y1, z1.trans y2, y3.set ?_ oq, pmSet_dom y4 (y4 a _ hG), y5.put z1 oq (y4 a _ hG), y6, y7⟩
  show H1[a]? = some (vp_cell _ _)
  rw [e1, hc, vp_cell_q, vp_cell_q, arrV_store]
  congr 2
  funext q
  by_cases hq : q = j
  · subst hq
    simp [updV, va_up, va_rf]
  · simp [updV, va_up, hq]
theorem V_sld {x : Int32} {j : Nat} (hd : decode M.2.1 pc = .ok (.iaload, 1)) (hx : x = nI j) (hj : j < Γ.2.2.2.2.1) (hN : Γ.2.2.2.2.1 < 2 ^ 31) (kk : pV Γ M (pc + 1) lo (.int (Γ.2.2.2.2.2 j) :: st) n G bc bs Q) : pV Γ M pc lo (.int x :: .ref Γ.2.2.2.1 :: st) n G bc bs Q := by
  intro p e s m args below meth c R A Qc mc ms X ls H locs cells slots Y
  have hW := kk p e s m args below meth c R A Qc mc ms X ls H locs cells slots Y
  obtain ⟨x1, x2, x3, x4, x5, x6, x7, x8, ⟨⟨x9, x9b⟩, x9c⟩, x10, x11, x12⟩ := X
  obtain ⟨y1, y2, y3, y4, y5, y6, y7⟩ := Y
  subst hx
  have hc := nI_clamp (n := j) (by omega)
  exact va_sld x1 x2 x9 x9b x9c y5 (nI_in hj hN) hd (by rw [hc]; exact hW)
theorem V_slen (hd : decode M.2.1 pc = .ok (.arraylength, 1)) (kk : pV Γ M (pc + 1) lo (.int (nI Γ.2.2.2.2.1) :: st) n G bc bs Q) : pV Γ M pc lo (.ref Γ.2.2.2.1 :: st) n G bc bs Q := by
  intro p e s m args below meth c R A Qc mc ms X ls H locs cells slots Y
  have hW := kk p e s m args below meth c R A Qc mc ms X ls H locs cells slots Y
  obtain ⟨x1, x2, x3, x4, x5, x6, x7, x8, ⟨⟨x9, x9b⟩, x9c⟩, x10, x11, x12⟩ := X
  obtain ⟨y1, y2, y3, y4, y5, y6, y7⟩ := Y
  exact va_slen x1 x2 x9 x9b x9c y5 hd hW
end VHEAP
end
section
/-! V's rows of calls. A method's contract is V at its entry, for every post; a call goes on behind it. -/
def okM (M : pmM) (np : Nat) : Prop := Jvm.Cond.code M.1 M.2.1 M.2.2.1 M.2.2.2.1 ∈ pmWs ∧ Jvm.Cond.initialized M.1.cls ∈ pmWs ∧ plainName M.1.cls = true ∧ M.1.cls ≠ "java/lang/invoke/MethodHandle" ∧ M.1.cls ≠ "java/lang/invoke/VarHandle" ∧ (parseMethodDescriptor M.1.desc).map (fun d => d.parameters.length) = some np ∧ M.2.2.1 ≤ 21
def okL (own : String) (idx : Nat) (M : pmM) : Prop := Jvm.Cond.methodLink own idx M.1 ∈ pmWs ∨ ∃ host, Jvm.Cond.methodLinkNest own idx M.1 host ∈ pmWs
def okV (M : pmM) : Prop := Jvm.Cond.instanceMethod M.1 ∈ pmWs ∧ Jvm.Cond.selects M.1.cls M.1 M.1 ∈ pmWs
def okCV (M : pmM) (idx : Nat) (M' : pmM) (ci np : Nat) : Prop := okL M.1.cls idx M' ∧ okM M' np ∧ okV M' ∧ M'.2.2.2.2 < M.2.2.2.2 ∧ (∃ r : vw_C, pmCl[ci]? = some r ∧ r.1 = M'.1.cls) ∧ np + 1 ≤ M'.2.2.1
def okCS (M : pmM) (idx : Nat) (M' : pmM) (np : Nat) : Prop := okL M.1.cls idx M' ∧ okM M' np ∧ Jvm.Cond.static M'.1 ∈ pmWs ∧ M'.2.2.2.2 < M.2.2.2.2 ∧ np ≤ M'.2.2.1
def okCI (M : pmM) (idx : Nat) (M' : pmM) (np : Nat) : Prop := okL M.1.cls idx M' ∧ okM M' np ∧ (Jvm.Cond.instanceMethod M'.1 ∈ pmWs ∧ M'.1.name = "<init>" ∧ M'.2.2.2.1 = none) ∧ M'.2.2.2.2 < M.2.2.2.2 ∧ np + 1 ≤ M'.2.2.1
section VCALLS
variable {Γ : pmE} {M M' : pmM} {pc : Nat} {lo : pmLo} {st : List Value} {n : Nat} {G : pmG} {bc bs : Nat} {Q : pmPost}
def pmPc (Γ : pmE) (vs : List Value) (n : Nat) (G : pmG) : Array Value → State → Prop := fun v U => v = vs.toArray ∧ U.heap.size = n ∧ pmR Γ G U.heap ∧ pmK Γ U ∧ pmS Γ U U.heap ∧ G Γ.2.2.2.1 = none
def pmQc (Γ : pmE) (n : Nat) (G : pmG) (Q : pmPost) : Array Value → State → Outcome → State → Prop := fun _ st oc t => ∃ (r : Option Value) (n' : Nat) (G' : pmG), oc = .returned r ∧ Q r n' G' ∧ t.heap.size = n' ∧ pmR Γ G' t.heap ∧ (∀ a e, G' a = some e → pmA G n a) ∧ va_F (pmA G n) st t
def pmRm (M : pmM) (bc bs : Nat) : Room := { frames := M.2.2.2.2, cells := bc, slots := bs, locals := 40 * M.2.2.2.2 }
theorem pmPc.blind {vs : List Value} : FrameBlind (pmPc Γ vs n G) := fun a U g mk h => by
  obtain ⟨h1, h2, h3, h4, h5, h6⟩ := h
  exact ⟨h1, h2, h3, h4.moved (U := U.calling g mk a) (State.WarmedH.refl U), ⟨h5.1.moved (U := U.calling g mk a) (Vm.Alike.refl _), h5.2⟩, h6⟩
theorem pV.met {vs : List Value} (hp : plainName M.1.cls = true) (hv : ∀ v ∈ vs, v.category = 1) (hn : vs.length ≤ M.2.2.1) (h : pV Γ M 0 (pmIn vs M.2.2.1) [] n G bc bs Q) :
    Met Γ.1 M.1 [Jvm.Cond.code M.1 M.2.1 M.2.2.1 M.2.2.2.1] (pmRm M bc bs) (pmPc Γ vs n G) (pmQc Γ n G Q) bc bs (pmA G n) := by
  refine Met.ofW (cc := M.2.1) (maxL := M.2.2.1) (ret := M.2.2.2.1) hp rfl ?_
  intro p e s m args below meth c s₁ B hml hpc
  obtain ⟨rfl, hsz, hR, hK, hS, hb⟩ := hpc
  rw [lg_entry_eq]
  refine h p e s m _ below meth c _ (pmA G n) (pmQc Γ n G Q) bc bs ⟨B.exec, B.bytes, hml, B.returns, B.notSynchronized, (name_of_methodNamed B.named B.method).1, findClass_of_methodNamed B.named, hK, ⟨hS, ?_⟩, ⟨Nat.le_refl _, Nat.le_refl _, Nat.le_refl _, Nat.le_refl _⟩, fun q hq => Or.inr (by rw [← hsz]; exact hq), ?_⟩ _ s.heap [] 0 0 ⟨pmL.entry hv hn, hsz, hR, fun a e he => Or.inl ⟨e, he⟩, va_S.rf, Nat.zero_add _, Nat.zero_add _⟩
  · rintro (⟨e, he⟩ | h1)
    · rw [hb] at he; cases he
    · have := hS.2
      rw [hsz] at this
      exact absurd h1 (by omega)
  · intro r n' G' t hq h1 h2 h3 h4
    exact ⟨r, n', G', rfl, hq, h1, h2, h3, h4⟩
theorem V_run {bc1 bs1 bc' bs' : Nat} {rest : List Value} {p : Program} {e : Env} {s : State} {m : MethodId} {args a : Array Value} {below : List Frame} {meth : Method} {c : Code} {R : Room} {A : Nat → Prop} {Qc : Array Value → State → Outcome → State → Prop} {mc ms : Nat} {ls : Array Slot} {H : Heap} {locs : List Loc} {cells slots : Nat}
    (X : pmX Γ M p s m args meth c R A Qc mc ms Q) (Y : pmY Γ M s A mc ms ls H locs cells slots lo n G bc bs) (hbc : bc = bc1 + bc') (hbs : bs = bs1 + bs')
    (hr : va_Run p Γ.1 e R s m args below meth c H locs cells slots bc1 bs1 (F0 m pc ls st) rest (pmQc Γ n G (fun r n' G' => pV Γ M (pc + 3) lo (pmPush r rest) n' G' bc' bs' Q) a) (pmA G n)) : W p Γ.1 e R s m args below meth c H locs cells slots (MQ below Qc args s mc ms A) (F0 m pc ls st) := by
  intro T hT X0
  obtain ⟨v, st₀, t, T', L, h0, X', hL, e1, e2, ⟨r, n', G', hv, hV, hsz, hR', hdom, hF⟩, st'⟩ := hr T hT X0
  cases hv
  obtain ⟨y1, y2, y3, y4, y5, y6, y7⟩ := Y
  have hAA : ∀ q, pmA G n q → A q := by
    rintro q (⟨e, he⟩ | hq)
    · exact y4 q e he
    · exact X.2.2.2.2.2.2.2.2.2.2.1 q (by have := y5.1; omega)
  have hF2 := hF.2
  have hF1 := hF.1
  rw [h0] at hF1 hF2
  have hS' : va_S A s.heap T'.heap (locs ++ L) := by
    refine ⟨Nat.le_trans y5.1 (by rw [e1]; exact hF1), fun q g1 g2 => ?_, fun q hq => ?_⟩
    · rw [e1, hF2 q (Nat.lt_of_lt_of_le g1 y5.1) (fun z => g2 (hAA q z))]
      exact y5.2.1 q g1 g2
    · rcases List.mem_append.mp hq with h | h
      · exact y5.2.2 q h
      · exact hAA _ (hL q h)
  obtain ⟨t2, a1, b1⟩ := hV p e s m args below meth c R A Qc mc ms X ls T'.heap (locs ++ L) (cells + bc1) (slots + bs1) ⟨y1, by rw [e1]; exact hsz, by rw [e1]; exact hR', fun a e he => hAA a (hdom a e he), hS', by omega, by omega⟩ T' rfl X'
  refine ⟨t2, st' t2 ?_, b1⟩
  rw [pmPush_eq]
  exact a1
theorem pm_pre {p : Program} {s : State} {m : MethodId} {args : Array Value} {meth : Method} {c : Code} {R : Room} {A : Nat → Prop} {Qc : Array Value → State → Outcome → State → Prop} {mc ms : Nat} {ls : Array Slot} {H : Heap} {locs : List Loc} {cells slots : Nat} (vs : List Value)
    (X : pmX Γ M p s m args meth c R A Qc mc ms Q) (Y : pmY Γ M s A mc ms ls H locs cells slots lo n G bc bs) : ∀ U : State, U.heap = H → s.WarmedH U.vm → pmPc Γ vs n G vs.toArray U := by
  intro U hU hW
  obtain ⟨x1, x2, x3, x4, x5, x6, x7, x8, ⟨⟨x9, x9b⟩, x9c⟩, x10, x11, x12⟩ := X
  obtain ⟨y1, y2, y3, y4, y5, y6, y7⟩ := Y
  refine ⟨rfl, by rw [hU]; exact y2, by rw [hU]; exact y3, x8.moved hW, ⟨(x9.kept (H1 := U.heap) (by rw [hU]; exact y5.2.1 _ x9b x9c)).moved hW.alike, by rw [hU]; exact Nat.lt_of_lt_of_le x9b y5.1⟩, ?_⟩
  cases hb : G Γ.2.2.2.1 with
  | none => rfl
  | some e => exact absurd (y4 _ e hb) x9c
theorem pm_words {s : State} {M' : pmM} (hK : pmK Γ s) (h : Jvm.Cond.code M'.1 M'.2.1 M'.2.2.1 M'.2.2.2.1 ∈ pmWs) : ∀ w ∈ [Jvm.Cond.code M'.1 M'.2.1 M'.2.2.1 M'.2.2.2.1], ∀ (a' : Array Value) (U : State), s.WarmedH U.vm → w.before a' U = true := by
  intro w hw a' U hW
  rw [List.mem_singleton.mp hw]
  exact (hK.moved hW).1 _ h a'
theorem V_callV {idx ci b bc1 bs1 bc' bs' : Nat} {fs : List Value} {As rest : List Value} {lo' : pmLo} (hd : decode M.2.1 pc = .ok (.invokevirtual idx, 3)) (hk : okCV M idx M' ci As.length)
    (hG : G b = some (.inr (ci, fs))) (hst : st = As.reverse ++ .ref b :: rest) (hrest0 : Nat.ble (rest.map fun v => v.category).sum 8 = true) (hcat0 : As.all (fun v => v.category == 1) = true) (hlo : lo' = pmIn (.ref b :: As) M'.2.2.1) (hbc : bc = bc1 + bc') (hbs : bs = bs1 + bs')
    (kk : pV Γ M' 0 lo' [] n G bc1 bs1 (fun r n' G' => pV Γ M (pc + 3) lo (pmPush r rest) n' G' bc' bs' Q)) : pV Γ M pc lo st n G bc bs Q := by
  intro p e s m args below meth c R A Qc mc ms X ls H locs cells slots Y
  have hrest := Nat.le_of_ble_eq_true hrest0
  have hcat : ∀ v ∈ As, v.category = 1 := fun v h => by simpa using List.all_eq_true.mp hcat0 v h
  obtain ⟨hl, hm, hv, hh, ⟨r, hc0, hrc⟩, hlen⟩ := hk
  subst hlo
  obtain ⟨m1, m2, m3, m4, m5, m6, m7⟩ := hm
  have hM := pV.met (vs := .ref b :: As) m3 (fun v h => (List.mem_cons.mp h).elim (fun e => by rw [e]; rfl) (hcat v)) hlen kk
  have x8 := X.2.2.2.2.2.2.2.1
  have hts : ∀ w ∈ pmWs, w.before args s = true := fun w h => x8.1 w h args
  have hpre := pm_pre (.ref b :: As) X Y
  have hrecv : ∃ cellB : Cell, H[b]? = some cellB ∧ cellB.vm.isStatics = false ∧ s.vm.findClass M'.1.cls = some cellB.cls := by
    rw [← hrc]
    exact va_recv (pm_vk x8) (pm_one Y.2.2.1 hG) hc0 (q0 := 0) rfl
  refine V_run (a := (Value.ref b :: As).toArray) (bc1 := bc1) (bs1 := bs1) (rest := rest) X Y hbc hbs ?_
  obtain ⟨x1, x2, x3, x4, x5, x6, x7, -, x9, ⟨r1, r2, r3, r4⟩, x11, x12⟩ := X
  obtain ⟨y1, y2, y3, y4, y5, y6, y7⟩ := Y
  have hlen' : ∀ sig, parseMethodDescriptor M'.1.desc = some sig → As.length = sig.parameters.length := fun sig h => by
    rw [h] at m6
    exact (Option.some.inj m6).symm
  have hfr : (pmRm M' bc1 bs1).frames + 1 ≤ R.frames := by show M'.2.2.2.2 + 1 ≤ _; omega
  have hlc : 8 + (M'.2.2.1 + 11) + (pmRm M' bc1 bs1).locals ≤ R.locals := by show _ + 40 * M'.2.2.2.2 ≤ _; omega
  rcases hl with hl | ⟨host, hl⟩
  · exact va_runV (C := M'.1.cls) (As := As) (nL := M.2.2.1) ⟨x1, x2, x3, x7, hts⟩ hM ⟨⟨rfl, rfl, hfr, hlc, pm_words x8 m1, List.mem_cons_self, hts _ m1, hts _ m2, ⟨m4, m5⟩, hlen', hts _ hl⟩, hts _ hv.1, hts _ hv.2⟩ ⟨pmPc.blind, hrecv, hpre⟩ rfl rfl (y1.size) hst (lv_room hrest) hd ⟨by omega, by omega⟩
  · exact va_runVN (C := M'.1.cls) (As := As) (nL := M.2.2.1) ⟨x1, x2, x3, x7, hts⟩ hM ⟨⟨⟨rfl, rfl, hfr, hlc, pm_words x8 m1, List.mem_cons_self⟩, hts _ m1, hts _ m2, ⟨m4, m5⟩, hlen', hts _ hl⟩, hts _ hv.1, hts _ hv.2⟩ ⟨pmPc.blind, hrecv, hpre⟩ rfl rfl (y1.size) hst (lv_room hrest) hd ⟨by omega, by omega⟩
theorem V_callS {idx bc1 bs1 bc' bs' : Nat} {As rest : List Value} {lo' : pmLo} (hd : decode M.2.1 pc = .ok (.invokestatic idx, 3)) (hk : okCS M idx M' As.length)
    (hst : st = As.reverse ++ rest) (hrest0 : Nat.ble (rest.map fun v => v.category).sum 8 = true) (hcat0 : As.all (fun v => v.category == 1) = true) (hlo : lo' = pmIn As M'.2.2.1) (hbc : bc = bc1 + bc') (hbs : bs = bs1 + bs')
    (kk : pV Γ M' 0 lo' [] n G bc1 bs1 (fun r n' G' => pV Γ M (pc + 3) lo (pmPush r rest) n' G' bc' bs' Q)) : pV Γ M pc lo st n G bc bs Q := by
  intro p e s m args below meth c R A Qc mc ms X ls H locs cells slots Y
  have hrest := Nat.le_of_ble_eq_true hrest0
  have hcat : ∀ v ∈ As, v.category = 1 := fun v h => by simpa using List.all_eq_true.mp hcat0 v h
  obtain ⟨hl, hm, hv, hh, hlen⟩ := hk
  subst hlo
  obtain ⟨m1, m2, m3, m4, m5, m6, m7⟩ := hm
  have hM := pV.met (vs := As) m3 hcat hlen kk
  have x8 := X.2.2.2.2.2.2.2.1
  have hts : ∀ w ∈ pmWs, w.before args s = true := fun w h => x8.1 w h args
  have hpre := pm_pre As X Y
  refine V_run (a := As.toArray) (bc1 := bc1) (bs1 := bs1) (rest := rest) X Y hbc hbs ?_
  obtain ⟨x1, x2, x3, x4, x5, x6, x7, -, x9, ⟨r1, r2, r3, r4⟩, x11, x12⟩ := X
  obtain ⟨y1, y2, y3, y4, y5, y6, y7⟩ := Y
  have hlen' : ∀ sig, parseMethodDescriptor M'.1.desc = some sig → As.length = sig.parameters.length := fun sig h => by
    rw [h] at m6
    exact (Option.some.inj m6).symm
  have hfr : (pmRm M' bc1 bs1).frames + 1 ≤ R.frames := by show M'.2.2.2.2 + 1 ≤ _; omega
  have hlc : 8 + (M'.2.2.1 + 11) + (pmRm M' bc1 bs1).locals ≤ R.locals := by show _ + 40 * M'.2.2.2.2 ≤ _; omega
  rcases hl with hl | ⟨host, hl⟩
  · exact va_runS (As := As) (nL := M.2.2.1) ⟨x1, x2, x3, x7, hts⟩ hM ⟨⟨rfl, rfl, hfr, hlc, pm_words x8 m1, List.mem_cons_self, hts _ m1, hts _ m2, ⟨m4, m5⟩, hlen', hts _ hl⟩, hts _ hv⟩ ⟨pmPc.blind, hpre⟩ rfl rfl (y1.size) hst (lv_room hrest) hd ⟨by omega, by omega⟩
  · exact va_runSN (As := As) (nL := M.2.2.1) ⟨x1, x2, x3, x7, hts⟩ hM ⟨⟨⟨rfl, rfl, hfr, hlc, pm_words x8 m1, List.mem_cons_self⟩, hts _ m1, hts _ m2, ⟨m4, m5⟩, hlen', hts _ hl⟩, hts _ hv, trivial⟩ ⟨pmPc.blind, hpre⟩ rfl rfl (y1.size) hst (lv_room hrest) hd ⟨by omega, by omega⟩
theorem V_callI {idx b bc1 bs1 bc' bs' : Nat} {As rest : List Value} {lo' : pmLo} (hd : decode M.2.1 pc = .ok (.invokespecial idx, 3)) (hk : okCI M idx M' As.length)
    (hst : st = As.reverse ++ .ref b :: rest) (hrest0 : Nat.ble (rest.map fun v => v.category).sum 8 = true) (hcat0 : As.all (fun v => v.category == 1) = true) (hlo : lo' = pmIn (.ref b :: As) M'.2.2.1) (hbc : bc = bc1 + bc') (hbs : bs = bs1 + bs')
    (kk : pV Γ M' 0 lo' [] n G bc1 bs1 (fun r n' G' => pV Γ M (pc + 3) lo (pmPush r rest) n' G' bc' bs' Q)) : pV Γ M pc lo st n G bc bs Q := by
  intro p e s m args below meth c R A Qc mc ms X ls H locs cells slots Y
  have hrest := Nat.le_of_ble_eq_true hrest0
  have hcat : ∀ v ∈ As, v.category = 1 := fun v h => by simpa using List.all_eq_true.mp hcat0 v h
  obtain ⟨hl, hm, ⟨hv, hi, hnone⟩, hh, hlen⟩ := hk
  subst hlo
  obtain ⟨m1, m2, m3, m4, m5, m6, m7⟩ := hm
  have hM := pV.met (vs := .ref b :: As) m3 (fun v h => (List.mem_cons.mp h).elim (fun e => by rw [e]; rfl) (hcat v)) hlen kk
  have x8 := X.2.2.2.2.2.2.2.1
  have hts : ∀ w ∈ pmWs, w.before args s = true := fun w h => x8.1 w h args
  have hpre := pm_pre (.ref b :: As) X Y
  refine V_run (a := (Value.ref b :: As).toArray) (bc1 := bc1) (bs1 := bs1) (rest := rest) X Y hbc hbs ?_
  obtain ⟨x1, x2, x3, x4, x5, x6, x7, -, x9, ⟨r1, r2, r3, r4⟩, x11, x12⟩ := X
  obtain ⟨y1, y2, y3, y4, y5, y6, y7⟩ := Y
  have hlen' : ∀ sig, parseMethodDescriptor M'.1.desc = some sig → As.length = sig.parameters.length := fun sig h => by
    rw [h] at m6
    exact (Option.some.inj m6).symm
  have hfr : (pmRm M' bc1 bs1).frames + 1 ≤ R.frames := by show M'.2.2.2.2 + 1 ≤ _; omega
  have hlc : 8 + (M'.2.2.1 + 11) + (pmRm M' bc1 bs1).locals ≤ R.locals := by show _ + 40 * M'.2.2.2.2 ≤ _; omega
  have hws := pm_words x8 m1
  have hmem : Jvm.Cond.code M'.1 M'.2.1 M'.2.2.1 none ∈ [Jvm.Cond.code M'.1 M'.2.1 M'.2.2.1 M'.2.2.2.1] := by rw [hnone]; exact List.mem_cons_self
  have hcode : (Jvm.Cond.code M'.1 M'.2.1 M'.2.2.1 none).before args s = true := by rw [← hnone]; exact hts _ m1
  rcases hl with hl | ⟨host, hl⟩
  · exact va_runI (As := As) (nL := M.2.2.1) ⟨x1, x2, x3, x7, hts⟩ hM ⟨⟨rfl, rfl, hfr, hlc, hws, hmem, hcode, hts _ m2, ⟨m4, m5⟩, hlen', hts _ hl⟩, hi, hts _ hv⟩ ⟨pmPc.blind, hpre⟩ rfl rfl (y1.size) hst (lv_room hrest) hd ⟨by omega, by omega⟩
  · exact va_runIN (As := As) (nL := M.2.2.1) ⟨x1, x2, x3, x7, hts⟩ hM ⟨⟨⟨rfl, rfl, hfr, hlc, hws, hmem⟩, hcode, hts _ m2, ⟨m4, m5⟩, hlen', hts _ hl⟩, hi, hts _ hv⟩ ⟨pmPc.blind, hpre⟩ rfl rfl (y1.size) hst (lv_room hrest) hd ⟨by omega, by omega⟩
theorem V_objInit {idx a : Nat} (hd : decode M.2.1 pc = .ok (.invokespecial idx, 3)) (hl : Jvm.Cond.methodLink M.1.cls idx Lib.objectInit ∈ pmWs) (hi : Jvm.Cond.instanceMethod Lib.objectInit ∈ pmWs) (hc : Jvm.Cond.code Lib.objectInit ⟨#[0xb1]⟩ 1 none ∈ pmWs) (hh : 1 ≤ M.2.2.2.2) (hrest0 : Nat.ble (st.map fun v => v.category).sum 8 = true) (kk : pV Γ M (pc + 3) lo st n G bc bs Q) : pV Γ M pc lo (.ref a :: st) n G bc bs Q := by
  have hrest := Nat.le_of_ble_eq_true hrest0
  intro p e s m args below meth c R A Qc mc ms X ls H locs cells slots Y
  have hW := kk p e s m args below meth c R A Qc mc ms X ls H locs cells slots Y
  obtain ⟨x1, x2, x3, x4, x5, x6, x7, x8, x9, ⟨r1, r2, r3, r4⟩, x11, x12⟩ := X
  have hts : ∀ w ∈ pmWs, w.before args s = true := fun w h => x8.1 w h args
  have hroom := lv_room (m := m) (pc := pc) (ls := ls) (rest := Value.ref a :: st) hrest
  exact W.objInit x1 x2 x7 (hts _ hl) (hts _ hi) (hts _ hc) rfl (by rw [x3]; exact Y.1.size) rfl hd (by omega) (by omega) hW
theorem V_copyi {idx a b N N' d k : Nat} {f g : Nat → Int32} {xs xd xn : Int32} (hd : decode M.2.1 pc = .ok (.invokestatic idx, 3)) (hl : Jvm.Cond.methodLink M.1.cls idx arraycopyName ∈ pmWs) (hnat : Jvm.Cond.native arraycopyName ∈ pmWs) (hstat : Jvm.Cond.static arraycopyName ∈ pmWs) (hini : Jvm.Cond.initialized "java/lang/System" ∈ pmWs) (hty : pmTy 0 = some .int) (hh : 1 ≤ M.2.2.2.2) (hrest0 : Nat.ble (st.map fun v => v.category).sum 8 = true)
    (hA0 : G a = some (.inl (0, N, .inl f))) (hA1 : G b = some (.inl (0, N', .inl g))) (hs : xs = nI d) (hdd : xd = nI 0) (hn : xn = nI k) (h4 : d + k ≤ N) (h5 : k ≤ N') (hN : N < 2 ^ 31) (hN' : N' < 2 ^ 31)
    (kk : ∀ G' : pmG, G' b = some (.inl (0, N', .inl (va_cpy f g d 0 k))) → (∀ q, q ≠ b → G' q = G q) → pV Γ M (pc + 3) lo st n G' bc bs Q) : pV Γ M pc lo (.int xn :: .int xd :: .ref b :: .int xs :: .ref a :: st) n G bc bs Q := by
  have hrest := Nat.le_of_ble_eq_true hrest0
  intro p e s m args below meth c R A Qc mc ms X ls H locs cells slots Y
  have hW := kk _ (pmSet_self _ _ _) (fun q h => pmSet_ne _ _ h) p e s m args below meth c R A Qc mc ms X
  obtain ⟨x1, x2, x3, x4, x5, x6, x7, x8, x9, ⟨r1, r2, r3, r4⟩, x11, x12⟩ := X
  obtain ⟨y1, y2, y3, y4, y5, y6, y7⟩ := Y
  subst hs; subst hdd; subst hn
  have hts : ∀ w ∈ pmWs, w.before args s = true := fun w h => x8.1 w h args
  have e_d : (nI d).toNatClampNeg = d := nI_clamp (by omega)
  have e_0 : (nI 0).toNatClampNeg = 0 := nI_clamp (by omega)
  have e_k : (nI k).toNatClampNeg = k := nI_clamp (by omega)
  have hroom := lv_room (m := m) (pc := pc) (ls := ls) (rest := st) hrest
  have hArr := (x8.2.2 0 _ hty).1
  have hc0 : H[a]? = some (vp_cell (Γ.2.2.1 0) (N, .inl f)) := y3 a _ hA0
  have hc1 : H[b]? = some (vp_cell (Γ.2.2.1 0) (N', .inl g)) := y3 b _ hA1
  intro T hT X0
  obtain ⟨-, k0, hk0, cm0, hkk0⟩ := hArr N (fun j => .int (f j))
  obtain ⟨-, k1, hk1, cm1, hkk1⟩ := hArr N' (fun j => .int (g j))
  obtain ⟨vm', X', step⟩ := X0.arraycopy x1 x7 (hts _ hl) (hts _ hnat) (hts _ hstat) (hts _ hini) (src := a) (dst := b) (cs := vp_cell (Γ.2.2.1 0) (N, .inl f)) (cd := vp_cell (Γ.2.2.1 0) (N', .inl g)) (srcPos := nI d) (destPos := nI 0) (n := nI k) (by rw [hT]; exact hc0) (by rw [hT]; exact hc1)
    (fun _ h => by cases h) (fun _ h => by cases h) (fun h => by cases h) (fun h => by cases h) hk0 hk1 hkk0 hkk1 (by simp [refKind]) (nI_pos (by omega)) (nI_pos (by omega)) (nI_pos (by omega))
    (by rw [nI_toInt (by omega), nI_toInt (by omega)]; show ¬ _ > ((arrV _ N (fun j => .int (f j))).slots.size : Int); rw [arrV_size]; omega)
    (by rw [nI_toInt (by omega), nI_toInt (by omega)]; show ¬ _ > ((arrV _ N' (fun j => .int (g j))).slots.size : Int); rw [arrV_size]; omega)
    (fun vm₁ _ i hi => by
      rw [e_k] at hi
      have e : (vp_cell (Γ.2.2.1 0) (N, .inl f)).slots.getD ((nI d).toNatClampNeg + i) .null = .int (f (d + i)) := by
        show (arrV _ N (fun j => .int (f j))).slots.getD _ _ = _
        rw [e_d, Array.getD_eq_getD_getElem?, arrV_read _ _ (by omega)]
        rfl
      refine ⟨?_, ?_⟩
      · rw [e]; rfl
      · rw [e]; exact trivial)
    (g := F0 m pc ls (.int (nI k) :: .int (nI 0) :: .ref b :: .int (nI d) :: .ref a :: st)) rfl (by rw [x3]; exact y1.size) (rest := st) rfl (by rw [x2]; exact hd) (by omega) (by show 2 * 0 + _ + _ ≤ _; have : nativeFrameWords "java/lang/System" "arraycopy" 5 + 11 ≤ 32 := (by decide +kernel); omega)
  have e1 : copied (vp_cell (Γ.2.2.1 0) (N, .inl f)) (vp_cell (Γ.2.2.1 0) (N', .inl g)) (nI d) (nI 0) (nI k) = vp_cell (Γ.2.2.1 0) (N', .inl (va_cpy f g (nI d).toNatClampNeg (nI 0).toNatClampNeg (nI k).toNatClampNeg)) :=
    va_copied (fun z => Value.int z) (Γ.2.2.1 0) (Γ.2.2.1 0) f g (by rw [e_d, e_k]; exact h4)
  rw [e_d, e_0, e_k] at e1
  rw [e1] at X' step
  have hl : b < H.size := (Array.getElem?_eq_some_iff.mp hc1).1
  generalize hcell : vp_cell (Γ.2.2.1 0) (N', .inl (va_cpy f g d 0 k)) = cellN at X' step
  have hheap : ((T.setVm vm').setCell b cellN).heap = H.setIfInBounds b cellN := by rw [← hT]; rfl
  have oq : ∀ q : Nat, q ≠ b → (H.setIfInBounds b cellN)[q]? = H[q]? := fun q hq => by simp [Array.getElem?_setIfInBounds, Ne.symm hq]
  have hAb := y4 b _ hA1
  obtain ⟨t, a1, b1⟩ := hW ls (H.setIfInBounds b cellN) _ cells slots ⟨y1, by simp; exact y2, y3.set (show (H.setIfInBounds b cellN)[b]? = some (vp_cell _ _) by rw [← hcell]; simp [Array.getElem?_setIfInBounds, hl]) oq, pmSet_dom y4 hAb, ⟨by simp; exact y5.1, fun q g1 g2 => by
      rw [oq q (fun e => g2 (by rw [e]; exact hAb))]
      exact y5.2.1 q g1 g2, fun q hq => by
      rcases List.mem_append.mp hq with h | h
      · exact y5.2.2 q h
      · obtain ⟨z, -, hz⟩ := List.mem_map.mp h
        rw [← hz]
        exact hAb⟩, y6, y7⟩ _ hheap X'
  exact ⟨t, step t a1, b1⟩
end VCALLS
end
section
/-! V's rows over numbers that are nI of a natural number. -/
noncomputable def pB (p : Prop) : Int32 := @ite _ p (Classical.propDecidable p) (nI 1) (nI 0)
theorem pB_t {p : Prop} (h : p) : pB p = nI 1 := if_pos h
theorem pB_f {p : Prop} (h : ¬ p) : pB p = nI 0 := if_neg h
theorem pB_c {p q : Prop} (h : p ↔ q) : pB p = pB q := by rw [propext h]
theorem pB_or (p : Prop) : pB p = nI 0 ∨ pB p = nI 1 := by
  by_cases h : p
  · exact Or.inr (pB_t h)
  · exact Or.inl (pB_f h)
section VNAT
variable {Γ : pmE} {M : pmM} {pc : Nat} {lo : pmLo} {st : List Value} {n : Nat} {G : pmG} {bc bs : Nat} {Q : pmPost} {a b : Nat}
theorem V_iaddN (hd : decode M.2.1 pc = .ok (.iadd, 1)) (k : pV Γ M (pc + 1) lo (.int (nI (a + b)) :: st) n G bc bs Q) : pV Γ M pc lo (.int (nI b) :: .int (nI a) :: st) n G bc bs Q := V_iadd hd (by rw [nI_add]; exact k)
theorem V_imulN (hd : decode M.2.1 pc = .ok (.imul, 1)) (k : pV Γ M (pc + 1) lo (.int (nI (a * b)) :: st) n G bc bs Q) : pV Γ M pc lo (.int (nI b) :: .int (nI a) :: st) n G bc bs Q := V_imul hd (by rw [pk_mul]; exact k)
theorem V_isubN (hd : decode M.2.1 pc = .ok (.isub, 1)) (h : b ≤ a) (k : pV Γ M (pc + 1) lo (.int (nI (a - b)) :: st) n G bc bs Q) : pV Γ M pc lo (.int (nI b) :: .int (nI a) :: st) n G bc bs Q := V_isub hd (by rw [pk_sub h]; exact k)
theorem V_iincN {i : Nat} (hd : decode M.2.1 pc = .ok (.iinc i 1, 3)) (hl : lo[i]? = some (some (.int (nI a)))) (k : pV Γ M (pc + 3) (lo.set i (some (.int (nI (a + 1))))) st n G bc bs Q) : pV Γ M pc lo st n G bc bs Q := V_iinc hd hl (by show nI a + 1 = _; exact nI_1 a) k
theorem V_icmp_ltN {off : Int} {tgt : Nat} (hd : decode M.2.1 pc = .ok (.if_icmp .lt off, 3)) (ht : (pc : Int) + off = (tgt : Int)) (ha : a < 2 ^ 31) (hb : b < 2 ^ 31) (kt : a < b → pV Γ M tgt lo st n G bc bs Q) (kf : b ≤ a → pV Γ M (pc + 3) lo st n G bc bs Q) : pV Γ M pc lo (.int (nI b) :: .int (nI a) :: st) n G bc bs Q :=
  V_icmp_lt hd ht (fun h => kt ((nI_ltI ha hb).mp h)) (fun h => kf (Nat.not_lt.mp fun q => h ((nI_ltI ha hb).mpr q)))
theorem V_icmp_geN {off : Int} {tgt : Nat} (hd : decode M.2.1 pc = .ok (.if_icmp .ge off, 3)) (ht : (pc : Int) + off = (tgt : Int)) (ha : a < 2 ^ 31) (hb : b < 2 ^ 31) (kt : b ≤ a → pV Γ M tgt lo st n G bc bs Q) (kf : a < b → pV Γ M (pc + 3) lo st n G bc bs Q) : pV Γ M pc lo (.int (nI b) :: .int (nI a) :: st) n G bc bs Q :=
  V_icmp_ge hd ht (fun h => kt ((nI_leI hb ha).mp h)) (fun h => kf (Nat.not_le.mp fun q => h ((nI_leI hb ha).mpr q)))
theorem V_icmp_gtN {off : Int} {tgt : Nat} (hd : decode M.2.1 pc = .ok (.if_icmp .gt off, 3)) (ht : (pc : Int) + off = (tgt : Int)) (ha : a < 2 ^ 31) (hb : b < 2 ^ 31) (kt : b < a → pV Γ M tgt lo st n G bc bs Q) (kf : a ≤ b → pV Γ M (pc + 3) lo st n G bc bs Q) : pV Γ M pc lo (.int (nI b) :: .int (nI a) :: st) n G bc bs Q :=
  V_icmp_gt hd ht (fun h => kt ((nI_ltI hb ha).mp h)) (fun h => kf (Nat.not_lt.mp fun q => h ((nI_ltI hb ha).mpr q)))
theorem V_icmp_leN {off : Int} {tgt : Nat} (hd : decode M.2.1 pc = .ok (.if_icmp .le off, 3)) (ht : (pc : Int) + off = (tgt : Int)) (ha : a < 2 ^ 31) (hb : b < 2 ^ 31) (kt : a ≤ b → pV Γ M tgt lo st n G bc bs Q) (kf : b < a → pV Γ M (pc + 3) lo st n G bc bs Q) : pV Γ M pc lo (.int (nI b) :: .int (nI a) :: st) n G bc bs Q :=
  V_icmp_le hd ht (fun h => kt ((nI_leI ha hb).mp h)) (fun h => kf (Nat.not_le.mp fun q => h ((nI_leI ha hb).mpr q)))
theorem V_icmp_eqN {off : Int} {tgt : Nat} (hd : decode M.2.1 pc = .ok (.if_icmp .eq off, 3)) (ht : (pc : Int) + off = (tgt : Int)) (ha : a < 2 ^ 31) (hb : b < 2 ^ 31) (kt : a = b → pV Γ M tgt lo st n G bc bs Q) (kf : a ≠ b → pV Γ M (pc + 3) lo st n G bc bs Q) : pV Γ M pc lo (.int (nI b) :: .int (nI a) :: st) n G bc bs Q :=
  V_icmp_eq hd ht (fun h => kt ((nI_eq ha hb).mp h)) (fun h => kf (fun q => h ((nI_eq ha hb).mpr q)))
theorem V_icmp_neN {off : Int} {tgt : Nat} (hd : decode M.2.1 pc = .ok (.if_icmp .ne off, 3)) (ht : (pc : Int) + off = (tgt : Int)) (ha : a < 2 ^ 31) (hb : b < 2 ^ 31) (kt : a ≠ b → pV Γ M tgt lo st n G bc bs Q) (kf : a = b → pV Γ M (pc + 3) lo st n G bc bs Q) : pV Γ M pc lo (.int (nI b) :: .int (nI a) :: st) n G bc bs Q :=
  V_icmp_ne hd ht (fun h => kt (fun q => h ((nI_eq ha hb).mpr q))) (fun h => kf ((nI_eq ha hb).mp h))
theorem V_if_eqN {off : Int} {tgt : Nat} (hd : decode M.2.1 pc = .ok (.ifCond .eq off, 3)) (ht : (pc : Int) + off = (tgt : Int)) (ha : a < 2 ^ 31) (kt : a = 0 → pV Γ M tgt lo st n G bc bs Q) (kf : a ≠ 0 → pV Γ M (pc + 3) lo st n G bc bs Q) : pV Γ M pc lo (.int (nI a) :: st) n G bc bs Q :=
  V_if_eq hd ht (fun h => kt (by rw [← nI_0] at h; exact (nI_eq ha (by omega)).mp h)) (fun h => kf (fun q => h (by rw [q]; exact nI_0)))
theorem V_if_neN {off : Int} {tgt : Nat} (hd : decode M.2.1 pc = .ok (.ifCond .ne off, 3)) (ht : (pc : Int) + off = (tgt : Int)) (ha : a < 2 ^ 31) (kt : a ≠ 0 → pV Γ M tgt lo st n G bc bs Q) (kf : a = 0 → pV Γ M (pc + 3) lo st n G bc bs Q) : pV Γ M pc lo (.int (nI a) :: st) n G bc bs Q :=
  V_if_ne hd ht (fun h => kt (fun q => h (by rw [q]; exact nI_0))) (fun h => kf (by rw [← nI_0] at h; exact (nI_eq ha (by omega)).mp h))
theorem V_if_ltN {off : Int} {tgt : Nat} (hd : decode M.2.1 pc = .ok (.ifCond .lt off, 3)) (ht : (pc : Int) + off = (tgt : Int)) (ha : a < 2 ^ 31) (kf : pV Γ M (pc + 3) lo st n G bc bs Q) : pV Γ M pc lo (.int (nI a) :: st) n G bc bs Q :=
  V_if_lt hd ht (fun h => absurd h (nI_pos ha)) (fun _ => kf)
theorem V_if_leN {off : Int} {tgt : Nat} (hd : decode M.2.1 pc = .ok (.ifCond .le off, 3)) (ht : (pc : Int) + off = (tgt : Int)) (ha : a < 2 ^ 31) (kt : a = 0 → pV Γ M tgt lo st n G bc bs Q) (kf : 0 < a → pV Γ M (pc + 3) lo st n G bc bs Q) : pV Γ M pc lo (.int (nI a) :: st) n G bc bs Q :=
  V_if_le hd ht (fun h => kt (by rw [← nI_0] at h; have := (nI_leI ha (by omega)).mp h; omega)) (fun h => kf (by
    rw [← nI_0] at h
    rcases Nat.eq_zero_or_pos a with q | q
    · exact absurd (by rw [q]; exact (nI_leI (by omega) (by omega)).mpr (Nat.le_refl _)) h
    · exact q))
-- a truth value decides
theorem V_if_eqB {p : Prop} {off : Int} {tgt : Nat} (hd : decode M.2.1 pc = .ok (.ifCond .eq off, 3)) (ht : (pc : Int) + off = (tgt : Int)) (kt : ¬ p → pV Γ M tgt lo st n G bc bs Q) (kf : p → pV Γ M (pc + 3) lo st n G bc bs Q) : pV Γ M pc lo (.int (pB p) :: st) n G bc bs Q := by
  by_cases h : p
  · rw [pB_t h]
    exact V_if_eqN hd ht (by omega) (fun q => absurd q (by omega)) (fun _ => kf h)
  · rw [pB_f h]
    exact V_if_eqN hd ht (by omega) (fun _ => kt h) (fun q => absurd rfl q)
theorem V_if_neB {p : Prop} {off : Int} {tgt : Nat} (hd : decode M.2.1 pc = .ok (.ifCond .ne off, 3)) (ht : (pc : Int) + off = (tgt : Int)) (kt : p → pV Γ M tgt lo st n G bc bs Q) (kf : ¬ p → pV Γ M (pc + 3) lo st n G bc bs Q) : pV Γ M pc lo (.int (pB p) :: st) n G bc bs Q := by
  by_cases h : p
  · rw [pB_t h]
    exact V_if_neN hd ht (by omega) (fun _ => kt h) (fun q => absurd q (by omega))
  · rw [pB_f h]
    exact V_if_neN hd ht (by omega) (fun q => absurd rfl q) (fun _ => kf h)
end VNAT
end
section
/-! Facts of fields, new objects, calls, each by its place in the pool. -/
theorem in_HE : ∀ w ∈ u_ws "HotEditions" T_HE 8, w ∈ pmWs := by
  intro w hw
  obtain ⟨k, hk, rfl⟩ := List.mem_map.mp hw
  have hk := List.mem_range.mp hk
  match k, hk with
  | 0, _ => exact w_240
  | 1, _ => exact w_242
  | 2, _ => exact w_244
  | 3, _ => exact w_246
  | 4, _ => exact w_248
  | 5, _ => exact w_250
  | 6, _ => exact w_252
  | 7, _ => exact w_254
  | k + 8, h => exact absurd h (by omega)
theorem in_Mo : ∀ w ∈ u_ws "HotEditionsModel" T_Mo 19, w ∈ pmWs := by
  intro w hw
  obtain ⟨k, hk, rfl⟩ := List.mem_map.mp hw
  have hk := List.mem_range.mp hk
  match k, hk with
  | 0, _ => exact w_613
  | 1, _ => exact w_615
  | 2, _ => exact w_617
  | 3, _ => exact w_619
  | 4, _ => exact w_621
  | 5, _ => exact w_623
  | 6, _ => exact w_625
  | 7, _ => exact w_627
  | 8, _ => exact w_629
  | 9, _ => exact w_631
  | 10, _ => exact w_633
  | 11, _ => exact w_635
  | 12, _ => exact w_637
  | 13, _ => exact w_639
  | 14, _ => exact w_641
  | 15, _ => exact w_643
  | 16, _ => exact w_645
  | 17, _ => exact w_647
  | 18, _ => exact w_649
  | k + 19, h => exact absurd h (by omega)
theorem in_Cl : ∀ w ∈ u_ws "HotEditions$Calls" T_Cl 3, w ∈ pmWs := by
  intro w hw
  obtain ⟨k, hk, rfl⟩ := List.mem_map.mp hw
  have hk := List.mem_range.mp hk
  match k, hk with
  | 0, _ => exact w_225
  | 1, _ => exact w_227
  | 2, _ => exact w_229
  | k + 3, h => exact absurd h (by omega)
theorem in_Ch : ∀ w ∈ u_ws "HotEditions$Chain" T_Ch 1, w ∈ pmWs := by
  intro w hw
  obtain ⟨k, hk, rfl⟩ := List.mem_map.mp hw
  have hk := List.mem_range.mp hk
  match k, hk with
  | 0, _ => exact w_152
  | k + 1, h => exact absurd h (by omega)
theorem in_Cd : ∀ w ∈ u_ws "HotEditions$Code" T_Cd 2, w ∈ pmWs := by
  intro w hw
  obtain ⟨k, hk, rfl⟩ := List.mem_map.mp hw
  have hk := List.mem_range.mp hk
  match k, hk with
  | 0, _ => exact w_46
  | 1, _ => exact w_48
  | k + 2, h => exact absurd h (by omega)
theorem in_Df : ∀ w ∈ u_ws "HotEditions$Definition" T_Df 7, w ∈ pmWs := by
  intro w hw
  obtain ⟨k, hk, rfl⟩ := List.mem_map.mp hw
  have hk := List.mem_range.mp hk
  match k, hk with
  | 0, _ => exact w_90
  | 1, _ => exact w_92
  | 2, _ => exact w_94
  | 3, _ => exact w_96
  | 4, _ => exact w_98
  | 5, _ => exact w_100
  | 6, _ => exact w_102
  | k + 7, h => exact absurd h (by omega)
theorem in_Fr : ∀ w ∈ u_ws "HotEditions$Frame" T_Fr 5, w ∈ pmWs := by
  intro w hw
  obtain ⟨k, hk, rfl⟩ := List.mem_map.mp hw
  have hk := List.mem_range.mp hk
  match k, hk with
  | 0, _ => exact w_208
  | 1, _ => exact w_210
  | 2, _ => exact w_212
  | 3, _ => exact w_214
  | 4, _ => exact w_216
  | k + 5, h => exact absurd h (by omega)
theorem in_Lc : ∀ w ∈ u_ws "HotEditions$LoadedClass" T_Lc 3, w ∈ pmWs := by
  intro w hw
  obtain ⟨k, hk, rfl⟩ := List.mem_map.mp hw
  have hk := List.mem_range.mp hk
  match k, hk with
  | 0, _ => exact w_439
  | 1, _ => exact w_441
  | 2, _ => exact w_443
  | k + 3, h => exact absurd h (by omega)
theorem in_Mt : ∀ w ∈ u_ws "HotEditions$Method" T_Mt 3, w ∈ pmWs := by
  intro w hw
  obtain ⟨k, hk, rfl⟩ := List.mem_map.mp hw
  have hk := List.mem_range.mp hk
  match k, hk with
  | 0, _ => exact w_63
  | 1, _ => exact w_65
  | 2, _ => exact w_67
  | k + 3, h => exact absurd h (by omega)
theorem in_Sh : ∀ w ∈ u_ws "HotEditions$Shelf" T_Sh 1, w ∈ pmWs := by
  intro w hw
  obtain ⟨k, hk, rfl⟩ := List.mem_map.mp hw
  have hk := List.mem_range.mp hk
  match k, hk with
  | 0, _ => exact w_114
  | k + 1, h => exact absurd h (by omega)
theorem in_Tf : ∀ w ∈ u_ws "HotEditions$Transformer" T_Tf 5, w ∈ pmWs := by
  intro w hw
  obtain ⟨k, hk, rfl⟩ := List.mem_map.mp hw
  have hk := List.mem_range.mp hk
  match k, hk with
  | 0, _ => exact w_140
  | 1, _ => exact w_142
  | 2, _ => exact w_144
  | 3, _ => exact w_146
  | 4, _ => exact w_148
  | k + 5, h => exact absurd h (by omega)
theorem in_Tr : ∀ w ∈ u_ws "HotEditions$Trial" T_Tr 3, w ∈ pmWs := by
  intro w hw
  obtain ⟨k, hk, rfl⟩ := List.mem_map.mp hw
  have hk := List.mem_range.mp hk
  match k, hk with
  | 0, _ => exact w_175
  | 1, _ => exact w_177
  | 2, _ => exact w_179
  | k + 3, h => exact absurd h (by omega)
theorem f_HE_10 : okF "HotEditions" 10 kHE 0 := ⟨"HotEditions", T_HE, 8, rfl, by decide, rfl, in_HE, Or.inl w_232⟩
theorem p_HE_10 : okPF "HotEditions" 10 kHE 0 (.object "HotEditions$Definition") := ⟨"HotEditions", T_HE, 8, t_HE, rfl, by decide, rfl, rfl, in_HE, w_232, ty_HE, nm_HE, rfl, rfl⟩
theorem f_HE_16 : okF "HotEditions" 16 kHE 1 := ⟨"HotEditions", T_HE, 8, rfl, by decide, rfl, in_HE, Or.inl w_233⟩
theorem p_HE_16 : okP kHE 1 false .int := ⟨"HotEditions", T_HE, 8, t_HE, rfl, by decide, ty_HE, nm_HE, rfl, rfl⟩
theorem f_HE_23 : okF "HotEditions" 23 kHE 2 := ⟨"HotEditions", T_HE, 8, rfl, by decide, rfl, in_HE, Or.inl w_234⟩
theorem p_HE_23 : okPF "HotEditions" 23 kHE 2 (.object "HotEditions$Shelf") := ⟨"HotEditions", T_HE, 8, t_HE, rfl, by decide, rfl, rfl, in_HE, w_234, ty_HE, nm_HE, rfl, rfl⟩
theorem f_HE_30 : okF "HotEditions" 30 kHE 3 := ⟨"HotEditions", T_HE, 8, rfl, by decide, rfl, in_HE, Or.inl w_235⟩
theorem p_HE_30 : okPF "HotEditions" 30 kHE 3 (.object "HotEditions$Chain") := ⟨"HotEditions", T_HE, 8, t_HE, rfl, by decide, rfl, rfl, in_HE, w_235, ty_HE, nm_HE, rfl, rfl⟩
theorem f_HE_36 : okF "HotEditions" 36 kHE 4 := ⟨"HotEditions", T_HE, 8, rfl, by decide, rfl, in_HE, Or.inl w_236⟩
theorem p_HE_36 : okPF "HotEditions" 36 kHE 4 (.array (.object "HotEditions$Trial")) := ⟨"HotEditions", T_HE, 8, t_HE, rfl, by decide, rfl, rfl, in_HE, w_236, ty_HE, nm_HE, rfl, rfl⟩
theorem f_HE_40 : okF "HotEditions" 40 kHE 5 := ⟨"HotEditions", T_HE, 8, rfl, by decide, rfl, in_HE, Or.inl w_237⟩
theorem p_HE_40 : okP kHE 5 false .int := ⟨"HotEditions", T_HE, 8, t_HE, rfl, by decide, ty_HE, nm_HE, rfl, rfl⟩
theorem f_HE_44 : okF "HotEditions" 44 kHE 6 := ⟨"HotEditions", T_HE, 8, rfl, by decide, rfl, in_HE, Or.inl w_238⟩
theorem p_HE_44 : okPF "HotEditions" 44 kHE 6 (.object "HotEditions$Trial") := ⟨"HotEditions", T_HE, 8, t_HE, rfl, by decide, rfl, rfl, in_HE, w_238, ty_HE, nm_HE, rfl, rfl⟩
theorem f_HE_50 : okF "HotEditions" 50 kHE 7 := ⟨"HotEditions", T_HE, 8, rfl, by decide, rfl, in_HE, Or.inl w_239⟩
theorem p_HE_50 : okPF "HotEditions" 50 kHE 7 (.array (.object "HotEditions$Calls")) := ⟨"HotEditions", T_HE, 8, t_HE, rfl, by decide, rfl, rfl, in_HE, w_239, ty_HE, nm_HE, rfl, rfl⟩
theorem f_HE_62 : okF "HotEditions" 62 kLc 1 := ⟨"HotEditions$LoadedClass", T_Lc, 3, rfl, by decide, rfl, in_Lc, Or.inr ⟨"HotEditions", w_434⟩⟩
theorem f_HE_71 : okF "HotEditions" 71 kDf 0 := ⟨"HotEditions$Definition", T_Df, 7, rfl, by decide, rfl, in_Df, Or.inr ⟨"HotEditions", w_77⟩⟩
theorem f_HE_87 : okF "HotEditions" 87 kDf 6 := ⟨"HotEditions$Definition", T_Df, 7, rfl, by decide, rfl, in_Df, Or.inr ⟨"HotEditions", w_89⟩⟩
theorem f_HE_90 : okF "HotEditions" 90 kDf 5 := ⟨"HotEditions$Definition", T_Df, 7, rfl, by decide, rfl, in_Df, Or.inr ⟨"HotEditions", w_85⟩⟩
theorem f_HE_94 : okF "HotEditions" 94 kMt 2 := ⟨"HotEditions$Method", T_Mt, 3, rfl, by decide, rfl, in_Mt, Or.inr ⟨"HotEditions", w_62⟩⟩
theorem f_HE_114 : okF "HotEditions" 114 kTr 1 := ⟨"HotEditions$Trial", T_Tr, 3, rfl, by decide, rfl, in_Tr, Or.inr ⟨"HotEditions", w_170⟩⟩
theorem f_HE_146 : okF "HotEditions" 146 kLc 2 := ⟨"HotEditions$LoadedClass", T_Lc, 3, rfl, by decide, rfl, in_Lc, Or.inr ⟨"HotEditions", w_438⟩⟩
theorem f_HE_163 : okF "HotEditions" 163 kCl 1 := ⟨"HotEditions$Calls", T_Cl, 3, rfl, by decide, rfl, in_Cl, Or.inr ⟨"HotEditions", w_222⟩⟩
theorem f_HE_178 : okF "HotEditions" 178 kFr 1 := ⟨"HotEditions$Frame", T_Fr, 5, rfl, by decide, rfl, in_Fr, Or.inr ⟨"HotEditions", w_201⟩⟩
theorem f_HE_183 : okF "HotEditions" 183 kFr 0 := ⟨"HotEditions$Frame", T_Fr, 5, rfl, by decide, rfl, in_Fr, Or.inr ⟨"HotEditions", w_199⟩⟩
theorem f_HE_186 : okF "HotEditions" 186 kCl 2 := ⟨"HotEditions$Calls", T_Cl, 3, rfl, by decide, rfl, in_Cl, Or.inr ⟨"HotEditions", w_224⟩⟩
theorem f_HE_189 : okF "HotEditions" 189 kLc 0 := ⟨"HotEditions$LoadedClass", T_Lc, 3, rfl, by decide, rfl, in_Lc, Or.inr ⟨"HotEditions", w_431⟩⟩
theorem f_HE_194 : okF "HotEditions" 194 kTr 0 := ⟨"HotEditions$Trial", T_Tr, 3, rfl, by decide, rfl, in_Tr, Or.inr ⟨"HotEditions", w_166⟩⟩
theorem f_HE_197 : okF "HotEditions" 197 kTr 2 := ⟨"HotEditions$Trial", T_Tr, 3, rfl, by decide, rfl, in_Tr, Or.inr ⟨"HotEditions", w_174⟩⟩
theorem f_HE_198 : okF "HotEditions" 198 kCl 0 := ⟨"HotEditions$Calls", T_Cl, 3, rfl, by decide, rfl, in_Cl, Or.inr ⟨"HotEditions", w_220⟩⟩
theorem f_Cl_11 : okF "HotEditions$Calls" 11 kCl 0 := ⟨"HotEditions$Calls", T_Cl, 3, rfl, by decide, rfl, in_Cl, Or.inl w_219⟩
theorem p_Cl_11 : okPF "HotEditions$Calls" 11 kCl 0 (.array (.object "HotEditions$Frame")) := ⟨"HotEditions$Calls", T_Cl, 3, t_Cl, rfl, by decide, rfl, rfl, in_Cl, w_219, ty_Cl, nm_Cl, rfl, rfl⟩
theorem f_Cl_17 : okF "HotEditions$Calls" 17 kCl 1 := ⟨"HotEditions$Calls", T_Cl, 3, rfl, by decide, rfl, in_Cl, Or.inl w_221⟩
theorem p_Cl_17 : okP kCl 1 false .int := ⟨"HotEditions$Calls", T_Cl, 3, t_Cl, rfl, by decide, ty_Cl, nm_Cl, rfl, rfl⟩
theorem f_Cl_21 : okF "HotEditions$Calls" 21 kCl 2 := ⟨"HotEditions$Calls", T_Cl, 3, rfl, by decide, rfl, in_Cl, Or.inl w_223⟩
theorem p_Cl_21 : okP kCl 2 false .int := ⟨"HotEditions$Calls", T_Cl, 3, t_Cl, rfl, by decide, ty_Cl, nm_Cl, rfl, rfl⟩
theorem f_Cl_31 : okF "HotEditions$Calls" 31 kLc 1 := ⟨"HotEditions$LoadedClass", T_Lc, 3, rfl, by decide, rfl, in_Lc, Or.inr ⟨"HotEditions", w_433⟩⟩
theorem f_Cl_43 : okF "HotEditions$Calls" 43 kLc 0 := ⟨"HotEditions$LoadedClass", T_Lc, 3, rfl, by decide, rfl, in_Lc, Or.inr ⟨"HotEditions", w_430⟩⟩
theorem f_Cl_46 : okF "HotEditions$Calls" 46 kMt 2 := ⟨"HotEditions$Method", T_Mt, 3, rfl, by decide, rfl, in_Mt, Or.inr ⟨"HotEditions", w_58⟩⟩
theorem f_Cl_56 : okF "HotEditions$Calls" 56 kFr 3 := ⟨"HotEditions$Frame", T_Fr, 5, rfl, by decide, rfl, in_Fr, Or.inr ⟨"HotEditions", w_205⟩⟩
theorem p_Cl_56 : okP kFr 3 false .int := ⟨"HotEditions$Frame", T_Fr, 5, t_Fr, rfl, by decide, ty_Fr, nm_Fr, rfl, rfl⟩
theorem f_Cl_59 : okF "HotEditions$Calls" 59 kFr 2 := ⟨"HotEditions$Frame", T_Fr, 5, rfl, by decide, rfl, in_Fr, Or.inr ⟨"HotEditions", w_203⟩⟩
theorem f_Cl_60 : okF "HotEditions$Calls" 60 kCd 1 := ⟨"HotEditions$Code", T_Cd, 2, rfl, by decide, rfl, in_Cd, Or.inr ⟨"HotEditions", w_44⟩⟩
theorem f_Cl_65 : okF "HotEditions$Calls" 65 kFr 4 := ⟨"HotEditions$Frame", T_Fr, 5, rfl, by decide, rfl, in_Fr, Or.inr ⟨"HotEditions", w_207⟩⟩
theorem p_Cl_65 : okP kFr 4 false .int := ⟨"HotEditions$Frame", T_Fr, 5, t_Fr, rfl, by decide, ty_Fr, nm_Fr, rfl, rfl⟩
theorem f_Ch_11 : okF "HotEditions$Chain" 11 kCh 0 := ⟨"HotEditions$Chain", T_Ch, 1, rfl, by decide, rfl, in_Ch, Or.inl w_151⟩
theorem p_Ch_11 : okPF "HotEditions$Chain" 11 kCh 0 (.array (.object "HotEditions$Transformer")) := ⟨"HotEditions$Chain", T_Ch, 1, t_Ch, rfl, by decide, rfl, rfl, in_Ch, w_151, ty_Ch, nm_Ch, rfl, rfl⟩
theorem f_Ch_18 : okF "HotEditions$Chain" 18 kTf 0 := ⟨"HotEditions$Transformer", T_Tf, 5, rfl, by decide, rfl, in_Tf, Or.inr ⟨"HotEditions", w_131⟩⟩
theorem p_Ch_18 : okP kTf 0 false .boolean := ⟨"HotEditions$Transformer", T_Tf, 5, t_Tf, rfl, by decide, ty_Tf, nm_Tf, rfl, rfl⟩
theorem f_Ch_22 : okF "HotEditions$Chain" 22 kTf 1 := ⟨"HotEditions$Transformer", T_Tf, 5, rfl, by decide, rfl, in_Tf, Or.inr ⟨"HotEditions", w_133⟩⟩
theorem p_Ch_22 : okP kTf 1 false .int := ⟨"HotEditions$Transformer", T_Tf, 5, t_Tf, rfl, by decide, ty_Tf, nm_Tf, rfl, rfl⟩
theorem f_Ch_26 : okF "HotEditions$Chain" 26 kTf 2 := ⟨"HotEditions$Transformer", T_Tf, 5, rfl, by decide, rfl, in_Tf, Or.inr ⟨"HotEditions", w_135⟩⟩
theorem p_Ch_26 : okP kTf 2 false .int := ⟨"HotEditions$Transformer", T_Tf, 5, t_Tf, rfl, by decide, ty_Tf, nm_Tf, rfl, rfl⟩
theorem f_Ch_29 : okF "HotEditions$Chain" 29 kTf 3 := ⟨"HotEditions$Transformer", T_Tf, 5, rfl, by decide, rfl, in_Tf, Or.inr ⟨"HotEditions", w_137⟩⟩
theorem p_Ch_29 : okP kTf 3 false .int := ⟨"HotEditions$Transformer", T_Tf, 5, t_Tf, rfl, by decide, ty_Tf, nm_Tf, rfl, rfl⟩
theorem f_Ch_32 : okF "HotEditions$Chain" 32 kTf 4 := ⟨"HotEditions$Transformer", T_Tf, 5, rfl, by decide, rfl, in_Tf, Or.inr ⟨"HotEditions", w_139⟩⟩
theorem p_Ch_32 : okP kTf 4 false .boolean := ⟨"HotEditions$Transformer", T_Tf, 5, t_Tf, rfl, by decide, ty_Tf, nm_Tf, rfl, rfl⟩
theorem f_Ch_35 : okF "HotEditions$Chain" 35 kTr 1 := ⟨"HotEditions$Trial", T_Tr, 3, rfl, by decide, rfl, in_Tr, Or.inr ⟨"HotEditions", w_169⟩⟩
theorem f_Ch_41 : okF "HotEditions$Chain" 41 kTr 0 := ⟨"HotEditions$Trial", T_Tr, 3, rfl, by decide, rfl, in_Tr, Or.inr ⟨"HotEditions", w_165⟩⟩
theorem f_Ch_48 : okF "HotEditions$Chain" 48 kTr 2 := ⟨"HotEditions$Trial", T_Tr, 3, rfl, by decide, rfl, in_Tr, Or.inr ⟨"HotEditions", w_173⟩⟩
theorem f_Cd_11 : okF "HotEditions$Code" 11 kCd 0 := ⟨"HotEditions$Code", T_Cd, 2, rfl, by decide, rfl, in_Cd, Or.inl w_42⟩
theorem p_Cd_11 : okPF "HotEditions$Code" 11 kCd 0 (.array .int) := ⟨"HotEditions$Code", T_Cd, 2, t_Cd, rfl, by decide, rfl, rfl, in_Cd, w_42, ty_Cd, nm_Cd, rfl, rfl⟩
theorem f_Cd_15 : okF "HotEditions$Code" 15 kCd 1 := ⟨"HotEditions$Code", T_Cd, 2, rfl, by decide, rfl, in_Cd, Or.inl w_43⟩
theorem p_Cd_15 : okP kCd 1 false .int := ⟨"HotEditions$Code", T_Cd, 2, t_Cd, rfl, by decide, ty_Cd, nm_Cd, rfl, rfl⟩
theorem f_Df_9 : okF "HotEditions$Definition" 9 kDf 0 := ⟨"HotEditions$Definition", T_Df, 7, rfl, by decide, rfl, in_Df, Or.inl w_74⟩
theorem p_Df_9 : okPF "HotEditions$Definition" 9 kDf 0 (.array .int) := ⟨"HotEditions$Definition", T_Df, 7, t_Df, rfl, by decide, rfl, rfl, in_Df, w_74, ty_Df, nm_Df, rfl, rfl⟩
theorem f_Df_15 : okF "HotEditions$Definition" 15 kDf 1 := ⟨"HotEditions$Definition", T_Df, 7, rfl, by decide, rfl, in_Df, Or.inl w_78⟩
theorem p_Df_15 : okPF "HotEditions$Definition" 15 kDf 1 (.array .int) := ⟨"HotEditions$Definition", T_Df, 7, t_Df, rfl, by decide, rfl, rfl, in_Df, w_78, ty_Df, nm_Df, rfl, rfl⟩
theorem f_Df_18 : okF "HotEditions$Definition" 18 kDf 2 := ⟨"HotEditions$Definition", T_Df, 7, rfl, by decide, rfl, in_Df, Or.inl w_79⟩
theorem p_Df_18 : okP kDf 2 false .int := ⟨"HotEditions$Definition", T_Df, 7, t_Df, rfl, by decide, ty_Df, nm_Df, rfl, rfl⟩
theorem f_Df_22 : okF "HotEditions$Definition" 22 kDf 3 := ⟨"HotEditions$Definition", T_Df, 7, rfl, by decide, rfl, in_Df, Or.inl w_80⟩
theorem p_Df_22 : okPF "HotEditions$Definition" 22 kDf 3 (.array .int) := ⟨"HotEditions$Definition", T_Df, 7, t_Df, rfl, by decide, rfl, rfl, in_Df, w_80, ty_Df, nm_Df, rfl, rfl⟩
theorem f_Df_25 : okF "HotEditions$Definition" 25 kDf 4 := ⟨"HotEditions$Definition", T_Df, 7, rfl, by decide, rfl, in_Df, Or.inl w_81⟩
theorem p_Df_25 : okP kDf 4 false .int := ⟨"HotEditions$Definition", T_Df, 7, t_Df, rfl, by decide, ty_Df, nm_Df, rfl, rfl⟩
theorem f_Df_30 : okF "HotEditions$Definition" 30 kDf 5 := ⟨"HotEditions$Definition", T_Df, 7, rfl, by decide, rfl, in_Df, Or.inl w_82⟩
theorem p_Df_30 : okPF "HotEditions$Definition" 30 kDf 5 (.array (.object "HotEditions$Method")) := ⟨"HotEditions$Definition", T_Df, 7, t_Df, rfl, by decide, rfl, rfl, in_Df, w_82, ty_Df, nm_Df, rfl, rfl⟩
theorem f_Df_34 : okF "HotEditions$Definition" 34 kDf 6 := ⟨"HotEditions$Definition", T_Df, 7, rfl, by decide, rfl, in_Df, Or.inl w_86⟩
theorem p_Df_34 : okP kDf 6 false .int := ⟨"HotEditions$Definition", T_Df, 7, t_Df, rfl, by decide, ty_Df, nm_Df, rfl, rfl⟩
theorem f_Df_51 : okF "HotEditions$Definition" 51 kMt 0 := ⟨"HotEditions$Method", T_Mt, 3, rfl, by decide, rfl, in_Mt, Or.inr ⟨"HotEditions", w_54⟩⟩
theorem p_Df_51 : okP kMt 0 false .int := ⟨"HotEditions$Method", T_Mt, 3, t_Mt, rfl, by decide, ty_Mt, nm_Mt, rfl, rfl⟩
theorem f_Df_54 : okF "HotEditions$Definition" 54 kMt 1 := ⟨"HotEditions$Method", T_Mt, 3, rfl, by decide, rfl, in_Mt, Or.inr ⟨"HotEditions", w_56⟩⟩
theorem p_Df_54 : okP kMt 1 false .int := ⟨"HotEditions$Method", T_Mt, 3, t_Mt, rfl, by decide, ty_Mt, nm_Mt, rfl, rfl⟩
theorem f_Df_57 : okF "HotEditions$Definition" 57 kMt 2 := ⟨"HotEditions$Method", T_Mt, 3, rfl, by decide, rfl, in_Mt, Or.inr ⟨"HotEditions", w_61⟩⟩
theorem f_Fr_9 : okF "HotEditions$Frame" 9 kFr 0 := ⟨"HotEditions$Frame", T_Fr, 5, rfl, by decide, rfl, in_Fr, Or.inl w_198⟩
theorem p_Fr_9 : okP kFr 0 false .int := ⟨"HotEditions$Frame", T_Fr, 5, t_Fr, rfl, by decide, ty_Fr, nm_Fr, rfl, rfl⟩
theorem f_Fr_15 : okF "HotEditions$Frame" 15 kFr 1 := ⟨"HotEditions$Frame", T_Fr, 5, rfl, by decide, rfl, in_Fr, Or.inl w_200⟩
theorem p_Fr_15 : okP kFr 1 false .int := ⟨"HotEditions$Frame", T_Fr, 5, t_Fr, rfl, by decide, ty_Fr, nm_Fr, rfl, rfl⟩
theorem f_Fr_21 : okF "HotEditions$Frame" 21 kFr 2 := ⟨"HotEditions$Frame", T_Fr, 5, rfl, by decide, rfl, in_Fr, Or.inl w_202⟩
theorem p_Fr_21 : okPF "HotEditions$Frame" 21 kFr 2 (.object "HotEditions$Code") := ⟨"HotEditions$Frame", T_Fr, 5, t_Fr, rfl, by decide, rfl, rfl, in_Fr, w_202, ty_Fr, nm_Fr, rfl, rfl⟩
theorem f_Fr_25 : okF "HotEditions$Frame" 25 kFr 3 := ⟨"HotEditions$Frame", T_Fr, 5, rfl, by decide, rfl, in_Fr, Or.inl w_204⟩
theorem p_Fr_25 : okP kFr 3 false .int := ⟨"HotEditions$Frame", T_Fr, 5, t_Fr, rfl, by decide, ty_Fr, nm_Fr, rfl, rfl⟩
theorem f_Fr_28 : okF "HotEditions$Frame" 28 kFr 4 := ⟨"HotEditions$Frame", T_Fr, 5, rfl, by decide, rfl, in_Fr, Or.inl w_206⟩
theorem p_Fr_28 : okP kFr 4 false .int := ⟨"HotEditions$Frame", T_Fr, 5, t_Fr, rfl, by decide, ty_Fr, nm_Fr, rfl, rfl⟩
theorem f_Lc_7 : okF "HotEditions$LoadedClass" 7 kLc 0 := ⟨"HotEditions$LoadedClass", T_Lc, 3, rfl, by decide, rfl, in_Lc, Or.inl w_429⟩
theorem p_Lc_7 : okP kLc 0 false .int := ⟨"HotEditions$LoadedClass", T_Lc, 3, t_Lc, rfl, by decide, ty_Lc, nm_Lc, rfl, rfl⟩
theorem f_Lc_16 : okF "HotEditions$LoadedClass" 16 kLc 1 := ⟨"HotEditions$LoadedClass", T_Lc, 3, rfl, by decide, rfl, in_Lc, Or.inl w_432⟩
theorem p_Lc_16 : okPF "HotEditions$LoadedClass" 16 kLc 1 (.object "HotEditions$Definition") := ⟨"HotEditions$LoadedClass", T_Lc, 3, t_Lc, rfl, by decide, rfl, rfl, in_Lc, w_432, ty_Lc, nm_Lc, rfl, rfl⟩
theorem f_Lc_20 : okF "HotEditions$LoadedClass" 20 kLc 2 := ⟨"HotEditions$LoadedClass", T_Lc, 3, rfl, by decide, rfl, in_Lc, Or.inl w_436⟩
theorem p_Lc_20 : okPF "HotEditions$LoadedClass" 20 kLc 2 (.object "HotEditions$Definition") := ⟨"HotEditions$LoadedClass", T_Lc, 3, t_Lc, rfl, by decide, rfl, rfl, in_Lc, w_436, ty_Lc, nm_Lc, rfl, rfl⟩
theorem f_Mt_7 : okF "HotEditions$Method" 7 kMt 0 := ⟨"HotEditions$Method", T_Mt, 3, rfl, by decide, rfl, in_Mt, Or.inl w_52⟩
theorem p_Mt_7 : okP kMt 0 false .int := ⟨"HotEditions$Method", T_Mt, 3, t_Mt, rfl, by decide, ty_Mt, nm_Mt, rfl, rfl⟩
theorem f_Mt_13 : okF "HotEditions$Method" 13 kMt 1 := ⟨"HotEditions$Method", T_Mt, 3, rfl, by decide, rfl, in_Mt, Or.inl w_55⟩
theorem p_Mt_13 : okP kMt 1 false .int := ⟨"HotEditions$Method", T_Mt, 3, t_Mt, rfl, by decide, ty_Mt, nm_Mt, rfl, rfl⟩
theorem f_Mt_19 : okF "HotEditions$Method" 19 kMt 2 := ⟨"HotEditions$Method", T_Mt, 3, rfl, by decide, rfl, in_Mt, Or.inl w_57⟩
theorem p_Mt_19 : okPF "HotEditions$Method" 19 kMt 2 (.object "HotEditions$Code") := ⟨"HotEditions$Method", T_Mt, 3, t_Mt, rfl, by decide, rfl, rfl, in_Mt, w_57, ty_Mt, nm_Mt, rfl, rfl⟩
theorem f_Ru_19 : okF "HotEditions$Rules" 19 kDf 0 := ⟨"HotEditions$Definition", T_Df, 7, rfl, by decide, rfl, in_Df, Or.inr ⟨"HotEditions", w_75⟩⟩
theorem f_Ru_61 : okF "HotEditions$Rules" 61 kDf 6 := ⟨"HotEditions$Definition", T_Df, 7, rfl, by decide, rfl, in_Df, Or.inr ⟨"HotEditions", w_88⟩⟩
theorem f_Ru_65 : okF "HotEditions$Rules" 65 kDf 5 := ⟨"HotEditions$Definition", T_Df, 7, rfl, by decide, rfl, in_Df, Or.inr ⟨"HotEditions", w_84⟩⟩
theorem f_Ru_69 : okF "HotEditions$Rules" 69 kMt 2 := ⟨"HotEditions$Method", T_Mt, 3, rfl, by decide, rfl, in_Mt, Or.inr ⟨"HotEditions", w_60⟩⟩
theorem f_Ru_75 : okF "HotEditions$Rules" 75 kCd 1 := ⟨"HotEditions$Code", T_Cd, 2, rfl, by decide, rfl, in_Cd, Or.inr ⟨"HotEditions", w_45⟩⟩
theorem f_Ru_90 : okF "HotEditions$Rules" 90 kLc 1 := ⟨"HotEditions$LoadedClass", T_Lc, 3, rfl, by decide, rfl, in_Lc, Or.inr ⟨"HotEditions", w_435⟩⟩
theorem f_Sh_11 : okF "HotEditions$Shelf" 11 kSh 0 := ⟨"HotEditions$Shelf", T_Sh, 1, rfl, by decide, rfl, in_Sh, Or.inl w_113⟩
theorem p_Sh_11 : okPF "HotEditions$Shelf" 11 kSh 0 (.array (.object "HotEditions$LoadedClass")) := ⟨"HotEditions$Shelf", T_Sh, 1, t_Sh, rfl, by decide, rfl, rfl, in_Sh, w_113, ty_Sh, nm_Sh, rfl, rfl⟩
theorem f_Sh_22 : okF "HotEditions$Shelf" 22 kTr 1 := ⟨"HotEditions$Trial", T_Tr, 3, rfl, by decide, rfl, in_Tr, Or.inr ⟨"HotEditions", w_168⟩⟩
theorem f_Sh_32 : okF "HotEditions$Shelf" 32 kLc 2 := ⟨"HotEditions$LoadedClass", T_Lc, 3, rfl, by decide, rfl, in_Lc, Or.inr ⟨"HotEditions", w_437⟩⟩
theorem f_Sh_35 : okF "HotEditions$Shelf" 35 kTr 2 := ⟨"HotEditions$Trial", T_Tr, 3, rfl, by decide, rfl, in_Tr, Or.inr ⟨"HotEditions", w_172⟩⟩
theorem f_Tf_9 : okF "HotEditions$Transformer" 9 kTf 0 := ⟨"HotEditions$Transformer", T_Tf, 5, rfl, by decide, rfl, in_Tf, Or.inl w_130⟩
theorem p_Tf_9 : okP kTf 0 false .boolean := ⟨"HotEditions$Transformer", T_Tf, 5, t_Tf, rfl, by decide, ty_Tf, nm_Tf, rfl, rfl⟩
theorem f_Tf_15 : okF "HotEditions$Transformer" 15 kTf 1 := ⟨"HotEditions$Transformer", T_Tf, 5, rfl, by decide, rfl, in_Tf, Or.inl w_132⟩
theorem p_Tf_15 : okP kTf 1 false .int := ⟨"HotEditions$Transformer", T_Tf, 5, t_Tf, rfl, by decide, ty_Tf, nm_Tf, rfl, rfl⟩
theorem f_Tf_19 : okF "HotEditions$Transformer" 19 kTf 2 := ⟨"HotEditions$Transformer", T_Tf, 5, rfl, by decide, rfl, in_Tf, Or.inl w_134⟩
theorem p_Tf_19 : okP kTf 2 false .int := ⟨"HotEditions$Transformer", T_Tf, 5, t_Tf, rfl, by decide, ty_Tf, nm_Tf, rfl, rfl⟩
theorem f_Tf_22 : okF "HotEditions$Transformer" 22 kTf 3 := ⟨"HotEditions$Transformer", T_Tf, 5, rfl, by decide, rfl, in_Tf, Or.inl w_136⟩
theorem p_Tf_22 : okP kTf 3 false .int := ⟨"HotEditions$Transformer", T_Tf, 5, t_Tf, rfl, by decide, ty_Tf, nm_Tf, rfl, rfl⟩
theorem f_Tf_25 : okF "HotEditions$Transformer" 25 kTf 4 := ⟨"HotEditions$Transformer", T_Tf, 5, rfl, by decide, rfl, in_Tf, Or.inl w_138⟩
theorem p_Tf_25 : okP kTf 4 false .boolean := ⟨"HotEditions$Transformer", T_Tf, 5, t_Tf, rfl, by decide, ty_Tf, nm_Tf, rfl, rfl⟩
theorem f_Tf_28 : okF "HotEditions$Transformer" 28 kDf 6 := ⟨"HotEditions$Definition", T_Df, 7, rfl, by decide, rfl, in_Df, Or.inr ⟨"HotEditions", w_87⟩⟩
theorem f_Tf_33 : okF "HotEditions$Transformer" 33 kDf 5 := ⟨"HotEditions$Definition", T_Df, 7, rfl, by decide, rfl, in_Df, Or.inr ⟨"HotEditions", w_83⟩⟩
theorem f_Tf_37 : okF "HotEditions$Transformer" 37 kMt 2 := ⟨"HotEditions$Method", T_Mt, 3, rfl, by decide, rfl, in_Mt, Or.inr ⟨"HotEditions", w_59⟩⟩
theorem f_Tf_49 : okF "HotEditions$Transformer" 49 kDf 0 := ⟨"HotEditions$Definition", T_Df, 7, rfl, by decide, rfl, in_Df, Or.inr ⟨"HotEditions", w_76⟩⟩
theorem f_Tf_61 : okF "HotEditions$Transformer" 61 kMt 0 := ⟨"HotEditions$Method", T_Mt, 3, rfl, by decide, rfl, in_Mt, Or.inr ⟨"HotEditions", w_53⟩⟩
theorem p_Tf_61 : okP kMt 0 false .int := ⟨"HotEditions$Method", T_Mt, 3, t_Mt, rfl, by decide, ty_Mt, nm_Mt, rfl, rfl⟩
theorem f_Tr_9 : okF "HotEditions$Trial" 9 kTr 0 := ⟨"HotEditions$Trial", T_Tr, 3, rfl, by decide, rfl, in_Tr, Or.inl w_164⟩
theorem p_Tr_9 : okP kTr 0 false .int := ⟨"HotEditions$Trial", T_Tr, 3, t_Tr, rfl, by decide, ty_Tr, nm_Tr, rfl, rfl⟩
theorem f_Tr_18 : okF "HotEditions$Trial" 18 kTr 1 := ⟨"HotEditions$Trial", T_Tr, 3, rfl, by decide, rfl, in_Tr, Or.inl w_167⟩
theorem p_Tr_18 : okPF "HotEditions$Trial" 18 kTr 1 (.object "HotEditions$Definition") := ⟨"HotEditions$Trial", T_Tr, 3, t_Tr, rfl, by decide, rfl, rfl, in_Tr, w_167, ty_Tr, nm_Tr, rfl, rfl⟩
theorem f_Tr_22 : okF "HotEditions$Trial" 22 kTr 2 := ⟨"HotEditions$Trial", T_Tr, 3, rfl, by decide, rfl, in_Tr, Or.inl w_171⟩
theorem p_Tr_22 : okPF "HotEditions$Trial" 22 kTr 2 (.object "HotEditions$Definition") := ⟨"HotEditions$Trial", T_Tr, 3, t_Tr, rfl, by decide, rfl, rfl, in_Tr, w_171, ty_Tr, nm_Tr, rfl, rfl⟩
theorem f_Mo_7 : okF "HotEditionsModel" 7 kMo 0 := ⟨"HotEditionsModel", T_Mo, 19, rfl, by decide, rfl, in_Mo, Or.inl w_594⟩
theorem p_Mo_7 : okPF "HotEditionsModel" 7 kMo 0 (.array .int) := ⟨"HotEditionsModel", T_Mo, 19, t_Mo, rfl, by decide, rfl, rfl, in_Mo, w_594, ty_Mo, nm_Mo, rfl, rfl⟩
theorem f_Mo_13 : okF "HotEditionsModel" 13 kMo 1 := ⟨"HotEditionsModel", T_Mo, 19, rfl, by decide, rfl, in_Mo, Or.inl w_595⟩
theorem p_Mo_13 : okP kMo 1 false .int := ⟨"HotEditionsModel", T_Mo, 19, t_Mo, rfl, by decide, ty_Mo, nm_Mo, rfl, rfl⟩
theorem f_Mo_17 : okF "HotEditionsModel" 17 kMo 2 := ⟨"HotEditionsModel", T_Mo, 19, rfl, by decide, rfl, in_Mo, Or.inl w_596⟩
theorem p_Mo_17 : okPF "HotEditionsModel" 17 kMo 2 (.array .int) := ⟨"HotEditionsModel", T_Mo, 19, t_Mo, rfl, by decide, rfl, rfl, in_Mo, w_596, ty_Mo, nm_Mo, rfl, rfl⟩
theorem f_Mo_20 : okF "HotEditionsModel" 20 kMo 3 := ⟨"HotEditionsModel", T_Mo, 19, rfl, by decide, rfl, in_Mo, Or.inl w_597⟩
theorem p_Mo_20 : okPF "HotEditionsModel" 20 kMo 3 (.array .int) := ⟨"HotEditionsModel", T_Mo, 19, t_Mo, rfl, by decide, rfl, rfl, in_Mo, w_597, ty_Mo, nm_Mo, rfl, rfl⟩
theorem f_Mo_23 : okF "HotEditionsModel" 23 kMo 4 := ⟨"HotEditionsModel", T_Mo, 19, rfl, by decide, rfl, in_Mo, Or.inl w_598⟩
theorem p_Mo_23 : okPF "HotEditionsModel" 23 kMo 4 (.array .int) := ⟨"HotEditionsModel", T_Mo, 19, t_Mo, rfl, by decide, rfl, rfl, in_Mo, w_598, ty_Mo, nm_Mo, rfl, rfl⟩
theorem f_Mo_26 : okF "HotEditionsModel" 26 kMo 5 := ⟨"HotEditionsModel", T_Mo, 19, rfl, by decide, rfl, in_Mo, Or.inl w_599⟩
theorem p_Mo_26 : okPF "HotEditionsModel" 26 kMo 5 (.array .int) := ⟨"HotEditionsModel", T_Mo, 19, t_Mo, rfl, by decide, rfl, rfl, in_Mo, w_599, ty_Mo, nm_Mo, rfl, rfl⟩
theorem f_Mo_29 : okF "HotEditionsModel" 29 kMo 6 := ⟨"HotEditionsModel", T_Mo, 19, rfl, by decide, rfl, in_Mo, Or.inl w_600⟩
theorem p_Mo_29 : okPF "HotEditionsModel" 29 kMo 6 (.array .boolean) := ⟨"HotEditionsModel", T_Mo, 19, t_Mo, rfl, by decide, rfl, rfl, in_Mo, w_600, ty_Mo, nm_Mo, rfl, rfl⟩
theorem f_Mo_33 : okF "HotEditionsModel" 33 kMo 7 := ⟨"HotEditionsModel", T_Mo, 19, rfl, by decide, rfl, in_Mo, Or.inl w_601⟩
theorem p_Mo_33 : okPF "HotEditionsModel" 33 kMo 7 (.array .int) := ⟨"HotEditionsModel", T_Mo, 19, t_Mo, rfl, by decide, rfl, rfl, in_Mo, w_601, ty_Mo, nm_Mo, rfl, rfl⟩
theorem f_Mo_36 : okF "HotEditionsModel" 36 kMo 8 := ⟨"HotEditionsModel", T_Mo, 19, rfl, by decide, rfl, in_Mo, Or.inl w_602⟩
theorem p_Mo_36 : okPF "HotEditionsModel" 36 kMo 8 (.array .int) := ⟨"HotEditionsModel", T_Mo, 19, t_Mo, rfl, by decide, rfl, rfl, in_Mo, w_602, ty_Mo, nm_Mo, rfl, rfl⟩
theorem f_Mo_39 : okF "HotEditionsModel" 39 kMo 9 := ⟨"HotEditionsModel", T_Mo, 19, rfl, by decide, rfl, in_Mo, Or.inl w_603⟩
theorem p_Mo_39 : okPF "HotEditionsModel" 39 kMo 9 (.array .int) := ⟨"HotEditionsModel", T_Mo, 19, t_Mo, rfl, by decide, rfl, rfl, in_Mo, w_603, ty_Mo, nm_Mo, rfl, rfl⟩
theorem f_Mo_42 : okF "HotEditionsModel" 42 kMo 10 := ⟨"HotEditionsModel", T_Mo, 19, rfl, by decide, rfl, in_Mo, Or.inl w_604⟩
theorem p_Mo_42 : okPF "HotEditionsModel" 42 kMo 10 (.array .boolean) := ⟨"HotEditionsModel", T_Mo, 19, t_Mo, rfl, by decide, rfl, rfl, in_Mo, w_604, ty_Mo, nm_Mo, rfl, rfl⟩
theorem f_Mo_45 : okF "HotEditionsModel" 45 kMo 12 := ⟨"HotEditionsModel", T_Mo, 19, rfl, by decide, rfl, in_Mo, Or.inl w_606⟩
theorem p_Mo_45 : okPF "HotEditionsModel" 45 kMo 12 (.array .int) := ⟨"HotEditionsModel", T_Mo, 19, t_Mo, rfl, by decide, rfl, rfl, in_Mo, w_606, ty_Mo, nm_Mo, rfl, rfl⟩
theorem f_Mo_48 : okF "HotEditionsModel" 48 kMo 13 := ⟨"HotEditionsModel", T_Mo, 19, rfl, by decide, rfl, in_Mo, Or.inl w_607⟩
theorem p_Mo_48 : okPF "HotEditionsModel" 48 kMo 13 (.array .int) := ⟨"HotEditionsModel", T_Mo, 19, t_Mo, rfl, by decide, rfl, rfl, in_Mo, w_607, ty_Mo, nm_Mo, rfl, rfl⟩
theorem f_Mo_51 : okF "HotEditionsModel" 51 kMo 14 := ⟨"HotEditionsModel", T_Mo, 19, rfl, by decide, rfl, in_Mo, Or.inl w_608⟩
theorem p_Mo_51 : okPF "HotEditionsModel" 51 kMo 14 (.array .int) := ⟨"HotEditionsModel", T_Mo, 19, t_Mo, rfl, by decide, rfl, rfl, in_Mo, w_608, ty_Mo, nm_Mo, rfl, rfl⟩
theorem f_Mo_54 : okF "HotEditionsModel" 54 kMo 15 := ⟨"HotEditionsModel", T_Mo, 19, rfl, by decide, rfl, in_Mo, Or.inl w_609⟩
theorem p_Mo_54 : okPF "HotEditionsModel" 54 kMo 15 (.array .int) := ⟨"HotEditionsModel", T_Mo, 19, t_Mo, rfl, by decide, rfl, rfl, in_Mo, w_609, ty_Mo, nm_Mo, rfl, rfl⟩
theorem f_Mo_57 : okF "HotEditionsModel" 57 kMo 16 := ⟨"HotEditionsModel", T_Mo, 19, rfl, by decide, rfl, in_Mo, Or.inl w_610⟩
theorem p_Mo_57 : okPF "HotEditionsModel" 57 kMo 16 (.array .int) := ⟨"HotEditionsModel", T_Mo, 19, t_Mo, rfl, by decide, rfl, rfl, in_Mo, w_610, ty_Mo, nm_Mo, rfl, rfl⟩
theorem f_Mo_60 : okF "HotEditionsModel" 60 kMo 17 := ⟨"HotEditionsModel", T_Mo, 19, rfl, by decide, rfl, in_Mo, Or.inl w_611⟩
theorem p_Mo_60 : okPF "HotEditionsModel" 60 kMo 17 (.array .int) := ⟨"HotEditionsModel", T_Mo, 19, t_Mo, rfl, by decide, rfl, rfl, in_Mo, w_611, ty_Mo, nm_Mo, rfl, rfl⟩
theorem f_Mo_63 : okF "HotEditionsModel" 63 kMo 18 := ⟨"HotEditionsModel", T_Mo, 19, rfl, by decide, rfl, in_Mo, Or.inl w_612⟩
theorem p_Mo_63 : okPF "HotEditionsModel" 63 kMo 18 (.array .int) := ⟨"HotEditionsModel", T_Mo, 19, t_Mo, rfl, by decide, rfl, rfl, in_Mo, w_612, ty_Mo, nm_Mo, rfl, rfl⟩
theorem f_Mo_140 : okF "HotEditionsModel" 140 kMo 11 := ⟨"HotEditionsModel", T_Mo, 19, rfl, by decide, rfl, in_Mo, Or.inl w_605⟩
theorem p_Mo_140 : okP kMo 11 false .int := ⟨"HotEditionsModel", T_Mo, 19, t_Mo, rfl, by decide, ty_Mo, nm_Mo, rfl, rfl⟩
theorem n_HE_7 : okN "HotEditions" 7 kDf 7 [.null, .null, .int 0, .null, .int 0, .null, .int 0] := ⟨"HotEditions$Definition", T_Df, t_Df, rfl, in_Df, ty_Df, w_23, w_24, w_2, fun j hj => by
  match j, hj with
  | 0, _ => rfl
  | 1, _ => rfl
  | 2, _ => rfl
  | 3, _ => rfl
  | 4, _ => rfl
  | 5, _ => rfl
  | 6, _ => rfl
  | k + 7, h => exact absurd h (by omega)⟩
theorem n_HE_20 : okN "HotEditions" 20 kSh 1 [.null] := ⟨"HotEditions$Shelf", T_Sh, t_Sh, rfl, in_Sh, ty_Sh, w_105, w_106, w_5, fun j hj => by
  match j, hj with
  | 0, _ => rfl
  | k + 1, h => exact absurd h (by omega)⟩
theorem n_HE_27 : okN "HotEditions" 27 kCh 1 [.null] := ⟨"HotEditions$Chain", T_Ch, t_Ch, rfl, in_Ch, ty_Ch, w_117, w_118, w_6, fun j hj => by
  match j, hj with
  | 0, _ => rfl
  | k + 1, h => exact absurd h (by omega)⟩
theorem n_HE_34 : okN "HotEditions" 34 kTr 3 [.int 0, .null, .null] := ⟨"HotEditions$Trial", T_Tr, t_Tr, rfl, in_Tr, ty_Tr, w_155, w_157, w_8, fun j hj => by
  match j, hj with
  | 0, _ => rfl
  | 1, _ => rfl
  | 2, _ => rfl
  | k + 3, h => exact absurd h (by omega)⟩
theorem n_HE_48 : okN "HotEditions" 48 kCl 3 [.null, .int 0, .int 0] := ⟨"HotEditions$Calls", T_Cl, t_Cl, rfl, in_Cl, ty_Cl, w_182, w_184, w_9, fun j hj => by
  match j, hj with
  | 0, _ => rfl
  | 1, _ => rfl
  | 2, _ => rfl
  | k + 3, h => exact absurd h (by omega)⟩
theorem n_Cl_9 : okN "HotEditions$Calls" 9 kFr 5 [.int 0, .int 0, .null, .int 0, .int 0] := ⟨"HotEditions$Frame", T_Fr, t_Fr, rfl, in_Fr, ty_Fr, w_189, w_191, w_10, fun j hj => by
  match j, hj with
  | 0, _ => rfl
  | 1, _ => rfl
  | 2, _ => rfl
  | 3, _ => rfl
  | 4, _ => rfl
  | k + 5, h => exact absurd h (by omega)⟩
theorem n_Ch_9 : okN "HotEditions$Chain" 9 kTf 5 [.int 0, .int 0, .int 0, .int 0, .int 0] := ⟨"HotEditions$Transformer", T_Tf, t_Tf, rfl, in_Tf, ty_Tf, w_123, w_125, w_7, fun j hj => by
  match j, hj with
  | 0, _ => rfl
  | 1, _ => rfl
  | 2, _ => rfl
  | 3, _ => rfl
  | 4, _ => rfl
  | k + 5, h => exact absurd h (by omega)⟩
theorem n_Df_28 : okN "HotEditions$Definition" 28 kMt 3 [.int 0, .int 0, .null] := ⟨"HotEditions$Method", T_Mt, t_Mt, rfl, in_Mt, ty_Mt, w_29, w_31, w_3, fun j hj => by
  match j, hj with
  | 0, _ => rfl
  | 1, _ => rfl
  | 2, _ => rfl
  | k + 3, h => exact absurd h (by omega)⟩
theorem n_Fr_18 : okN "HotEditions$Frame" 18 kCd 2 [.null, .int 0] := ⟨"HotEditions$Code", T_Cd, t_Cd, rfl, in_Cd, ty_Cd, w_196, w_37, w_4, fun j hj => by
  match j, hj with
  | 0, _ => rfl
  | 1, _ => rfl
  | k + 2, h => exact absurd h (by omega)⟩
theorem n_Lc_13 : okN "HotEditions$LoadedClass" 13 kDf 7 [.null, .null, .int 0, .null, .int 0, .null, .int 0] := ⟨"HotEditions$Definition", T_Df, t_Df, rfl, in_Df, ty_Df, w_427, w_24, w_2, fun j hj => by
  match j, hj with
  | 0, _ => rfl
  | 1, _ => rfl
  | 2, _ => rfl
  | 3, _ => rfl
  | 4, _ => rfl
  | 5, _ => rfl
  | 6, _ => rfl
  | k + 7, h => exact absurd h (by omega)⟩
theorem n_Mt_16 : okN "HotEditions$Method" 16 kCd 2 [.null, .int 0] := ⟨"HotEditions$Code", T_Cd, t_Cd, rfl, in_Cd, ty_Cd, w_36, w_37, w_4, fun j hj => by
  match j, hj with
  | 0, _ => rfl
  | 1, _ => rfl
  | k + 2, h => exact absurd h (by omega)⟩
theorem n_Sh_9 : okN "HotEditions$Shelf" 9 kLc 3 [.int 0, .null, .null] := ⟨"HotEditions$LoadedClass", T_Lc, t_Lc, rfl, in_Lc, ty_Lc, w_111, w_422, w_14, fun j hj => by
  match j, hj with
  | 0, _ => rfl
  | 1, _ => rfl
  | 2, _ => rfl
  | k + 3, h => exact absurd h (by omega)⟩
theorem n_Tr_15 : okN "HotEditions$Trial" 15 kDf 7 [.null, .null, .int 0, .null, .int 0, .null, .int 0] := ⟨"HotEditions$Definition", T_Df, t_Df, rfl, in_Df, ty_Df, w_162, w_24, w_2, fun j hj => by
  match j, hj with
  | 0, _ => rfl
  | 1, _ => rfl
  | 2, _ => rfl
  | 3, _ => rfl
  | 4, _ => rfl
  | 5, _ => rfl
  | 6, _ => rfl
  | k + 7, h => exact absurd h (by omega)⟩
theorem n_Lw_7 : okN "HotEditionsLaw" 7 kHE 8 [.null, .int 0, .null, .null, .null, .int 0, .null, .null] := ⟨"HotEditions", T_HE, t_HE, rfl, in_HE, ty_HE, w_15, w_16, w_1, fun j hj => by
  match j, hj with
  | 0, _ => rfl
  | 1, _ => rfl
  | 2, _ => rfl
  | 3, _ => rfl
  | 4, _ => rfl
  | 5, _ => rfl
  | 6, _ => rfl
  | 7, _ => rfl
  | k + 8, h => exact absurd h (by omega)⟩
theorem n_Lw_10 : okN "HotEditionsLaw" 10 kMo 19 [.null, .int 0, .null, .null, .null, .null, .null, .null, .null, .null, .null, .int 0, .null, .null, .null, .null, .null, .null, .null] := ⟨"HotEditionsModel", T_Mo, t_Mo, rfl, in_Mo, ty_Mo, w_580, w_581, w_11, fun j hj => by
  match j, hj with
  | 0, _ => rfl
  | 1, _ => rfl
  | 2, _ => rfl
  | 3, _ => rfl
  | 4, _ => rfl
  | 5, _ => rfl
  | 6, _ => rfl
  | 7, _ => rfl
  | 8, _ => rfl
  | 9, _ => rfl
  | 10, _ => rfl
  | 11, _ => rfl
  | 12, _ => rfl
  | 13, _ => rfl
  | 14, _ => rfl
  | 15, _ => rfl
  | 16, _ => rfl
  | 17, _ => rfl
  | 18, _ => rfl
  | k + 19, h => exact absurd h (by omega)⟩
theorem mk_HE_init : okM m_HE_init 0 := ⟨w_19, w_1, by decide +kernel, by decide +kernel, by decide +kernel, by decide +kernel, by decide +kernel⟩
theorem mk_HE_blank : okM m_HE_blank 0 := ⟨w_260, w_1, by decide +kernel, by decide +kernel, by decide +kernel, by decide +kernel, by decide +kernel⟩
theorem mk_HE_copy : okM m_HE_copy 1 := ⟨w_265, w_1, by decide +kernel, by decide +kernel, by decide +kernel, by decide +kernel, by decide +kernel⟩
theorem mk_HE_set : okM m_HE_set 2 := ⟨w_289, w_1, by decide +kernel, by decide +kernel, by decide +kernel, by decide +kernel, by decide +kernel⟩
theorem mk_HE_implement : okM m_HE_implement 1 := ⟨w_293, w_1, by decide +kernel, by decide +kernel, by decide +kernel, by decide +kernel, by decide +kernel⟩
theorem mk_HE_field : okM m_HE_field 3 := ⟨w_301, w_1, by decide +kernel, by decide +kernel, by decide +kernel, by decide +kernel, by decide +kernel⟩
theorem mk_HE_method : okM m_HE_method 2 := ⟨w_309, w_1, by decide +kernel, by decide +kernel, by decide +kernel, by decide +kernel, by decide +kernel⟩
theorem mk_HE_choose : okM m_HE_choose 1 := ⟨w_321, w_1, by decide +kernel, by decide +kernel, by decide +kernel, by decide +kernel, by decide +kernel⟩
theorem mk_HE_code : okM m_HE_code 3 := ⟨w_326, w_1, by decide +kernel, by decide +kernel, by decide +kernel, by decide +kernel, by decide +kernel⟩
theorem mk_HE_load : okM m_HE_load 0 := ⟨w_334, w_1, by decide +kernel, by decide +kernel, by decide +kernel, by decide +kernel, by decide +kernel⟩
theorem mk_HE_transformer : okM m_HE_transformer 4 := ⟨w_455, w_1, by decide +kernel, by decide +kernel, by decide +kernel, by decide +kernel, by decide +kernel⟩
theorem mk_HE_remove : okM m_HE_remove 1 := ⟨w_463, w_1, by decide +kernel, by decide +kernel, by decide +kernel, by decide +kernel, by decide +kernel⟩
theorem mk_HE_queue : okM m_HE_queue 1 := ⟨w_471, w_1, by decide +kernel, by decide +kernel, by decide +kernel, by decide +kernel, by decide +kernel⟩
theorem mk_HE_swap : okM m_HE_swap 0 := ⟨w_479, w_1, by decide +kernel, by decide +kernel, by decide +kernel, by decide +kernel, by decide +kernel⟩
theorem mk_HE_repeat : okM m_HE_repeat 1 := ⟨w_520, w_1, by decide +kernel, by decide +kernel, by decide +kernel, by decide +kernel, by decide +kernel⟩
theorem mk_HE_start : okM m_HE_start 3 := ⟨w_525, w_1, by decide +kernel, by decide +kernel, by decide +kernel, by decide +kernel, by decide +kernel⟩
theorem mk_HE_step : okM m_HE_step 2 := ⟨w_543, w_1, by decide +kernel, by decide +kernel, by decide +kernel, by decide +kernel, by decide +kernel⟩
theorem mk_HE_frame : okM m_HE_frame 2 := ⟨w_559, w_1, by decide +kernel, by decide +kernel, by decide +kernel, by decide +kernel, by decide +kernel⟩
theorem mk_HE_result : okM m_HE_result 1 := ⟨w_567, w_1, by decide +kernel, by decide +kernel, by decide +kernel, by decide +kernel, by decide +kernel⟩
theorem mk_HE_edition : okM m_HE_edition 1 := ⟨w_571, w_1, by decide +kernel, by decide +kernel, by decide +kernel, by decide +kernel, by decide +kernel⟩
theorem mk_HE_kept : okM m_HE_kept 1 := ⟨w_575, w_1, by decide +kernel, by decide +kernel, by decide +kernel, by decide +kernel, by decide +kernel⟩
theorem mk_HE_isClass : okM m_HE_isClass 1 := ⟨w_416, w_1, by decide +kernel, by decide +kernel, by decide +kernel, by decide +kernel, by decide +kernel⟩
theorem mk_HE_isThread : okM m_HE_isThread 1 := ⟨w_528, w_1, by decide +kernel, by decide +kernel, by decide +kernel, by decide +kernel, by decide +kernel⟩
theorem mk_HE_isInBatch : okM m_HE_isInBatch 1 := ⟨w_475, w_1, by decide +kernel, by decide +kernel, by decide +kernel, by decide +kernel, by decide +kernel⟩
theorem mk_HE_firstBrokenOfBatch : okM m_HE_firstBrokenOfBatch 0 := ⟨w_483, w_1, by decide +kernel, by decide +kernel, by decide +kernel, by decide +kernel, by decide +kernel⟩
theorem mk_HE_installBatch : okM m_HE_installBatch 0 := ⟨w_515, w_1, by decide +kernel, by decide +kernel, by decide +kernel, by decide +kernel, by decide +kernel⟩
theorem mk_HE_findFrame : okM m_HE_findFrame 2 := ⟨w_563, w_1, by decide +kernel, by decide +kernel, by decide +kernel, by decide +kernel, by decide +kernel⟩
theorem mk_HE_isFirstOfItsEdition : okM m_HE_isFirstOfItsEdition 3 := ⟨w_579, w_1, by decide +kernel, by decide +kernel, by decide +kernel, by decide +kernel, by decide +kernel⟩
theorem mk_Mo_init : okM m_Mo_init 0 := ⟨w_584, w_11, by decide +kernel, by decide +kernel, by decide +kernel, by decide +kernel, by decide +kernel⟩
theorem mk_Mo_get : okM m_Mo_get 2 := ⟨w_669, w_11, by decide +kernel, by decide +kernel, by decide +kernel, by decide +kernel, by decide +kernel⟩
theorem mk_Mo_put : okM m_Mo_put 3 := ⟨w_593, w_11, by decide +kernel, by decide +kernel, by decide +kernel, by decide +kernel, by decide +kernel⟩
theorem mk_Mo_transcribe : okM m_Mo_transcribe 2 := ⟨w_665, w_11, by decide +kernel, by decide +kernel, by decide +kernel, by decide +kernel, by decide +kernel⟩
theorem mk_Mo_loaded : okM m_Mo_loaded 1 := ⟨w_661, w_11, by decide +kernel, by decide +kernel, by decide +kernel, by decide +kernel, by decide +kernel⟩
theorem mk_Mo_blank : okM m_Mo_blank 0 := ⟨w_589, w_11, by decide +kernel, by decide +kernel, by decide +kernel, by decide +kernel, by decide +kernel⟩
theorem mk_Mo_copy : okM m_Mo_copy 1 := ⟨w_657, w_11, by decide +kernel, by decide +kernel, by decide +kernel, by decide +kernel, by decide +kernel⟩
theorem mk_Mo_set : okM m_Mo_set 2 := ⟨w_673, w_11, by decide +kernel, by decide +kernel, by decide +kernel, by decide +kernel, by decide +kernel⟩
theorem mk_Mo_implement : okM m_Mo_implement 1 := ⟨w_677, w_11, by decide +kernel, by decide +kernel, by decide +kernel, by decide +kernel, by decide +kernel⟩
theorem mk_Mo_field : okM m_Mo_field 3 := ⟨w_681, w_11, by decide +kernel, by decide +kernel, by decide +kernel, by decide +kernel, by decide +kernel⟩
theorem mk_Mo_methodAt : okM m_Mo_methodAt 1 := ⟨w_688, w_11, by decide +kernel, by decide +kernel, by decide +kernel, by decide +kernel, by decide +kernel⟩
theorem mk_Mo_method : okM m_Mo_method 2 := ⟨w_685, w_11, by decide +kernel, by decide +kernel, by decide +kernel, by decide +kernel, by decide +kernel⟩
theorem mk_Mo_choose : okM m_Mo_choose 1 := ⟨w_692, w_11, by decide +kernel, by decide +kernel, by decide +kernel, by decide +kernel, by decide +kernel⟩
theorem mk_Mo_code : okM m_Mo_code 3 := ⟨w_696, w_11, by decide +kernel, by decide +kernel, by decide +kernel, by decide +kernel, by decide +kernel⟩
theorem mk_Mo_transformer : okM m_Mo_transformer 4 := ⟨w_700, w_11, by decide +kernel, by decide +kernel, by decide +kernel, by decide +kernel, by decide +kernel⟩
theorem mk_Mo_remove : okM m_Mo_remove 1 := ⟨w_704, w_11, by decide +kernel, by decide +kernel, by decide +kernel, by decide +kernel, by decide +kernel⟩
theorem mk_Mo_find : okM m_Mo_find 2 := ⟨w_724, w_11, by decide +kernel, by decide +kernel, by decide +kernel, by decide +kernel, by decide +kernel⟩
theorem mk_Mo_change : okM m_Mo_change 2 := ⟨w_720, w_11, by decide +kernel, by decide +kernel, by decide +kernel, by decide +kernel, by decide +kernel⟩
theorem mk_Mo_changes : okM m_Mo_changes 3 := ⟨w_716, w_11, by decide +kernel, by decide +kernel, by decide +kernel, by decide +kernel, by decide +kernel⟩
theorem mk_Mo_treat : okM m_Mo_treat 3 := ⟨w_712, w_11, by decide +kernel, by decide +kernel, by decide +kernel, by decide +kernel, by decide +kernel⟩
theorem mk_Mo_twice : okM m_Mo_twice 4 := ⟨w_732, w_11, by decide +kernel, by decide +kernel, by decide +kernel, by decide +kernel, by decide +kernel⟩
theorem mk_Mo_strangeOp : okM m_Mo_strangeOp 1 := ⟨w_736, w_11, by decide +kernel, by decide +kernel, by decide +kernel, by decide +kernel, by decide +kernel⟩
theorem mk_Mo_circle : okM m_Mo_circle 1 := ⟨w_740, w_11, by decide +kernel, by decide +kernel, by decide +kernel, by decide +kernel, by decide +kernel⟩
theorem mk_Mo_callsNothing : okM m_Mo_callsNothing 1 := ⟨w_744, w_11, by decide +kernel, by decide +kernel, by decide +kernel, by decide +kernel, by decide +kernel⟩
theorem mk_Mo_plainRules : okM m_Mo_plainRules 1 := ⟨w_728, w_11, by decide +kernel, by decide +kernel, by decide +kernel, by decide +kernel, by decide +kernel⟩
theorem mk_Mo_otherInterfaces : okM m_Mo_otherInterfaces 2 := ⟨w_772, w_11, by decide +kernel, by decide +kernel, by decide +kernel, by decide +kernel, by decide +kernel⟩
theorem mk_Mo_otherFields : okM m_Mo_otherFields 2 := ⟨w_776, w_11, by decide +kernel, by decide +kernel, by decide +kernel, by decide +kernel, by decide +kernel⟩
theorem mk_Mo_moreMethods : okM m_Mo_moreMethods 2 := ⟨w_780, w_11, by decide +kernel, by decide +kernel, by decide +kernel, by decide +kernel, by decide +kernel⟩
theorem mk_Mo_otherMethodFlags : okM m_Mo_otherMethodFlags 2 := ⟨w_784, w_11, by decide +kernel, by decide +kernel, by decide +kernel, by decide +kernel, by decide +kernel⟩
theorem mk_Mo_rules : okM m_Mo_rules 2 := ⟨w_768, w_11, by decide +kernel, by decide +kernel, by decide +kernel, by decide +kernel, by decide +kernel⟩
theorem mk_Mo_inFrames : okM m_Mo_inFrames 1 := ⟨w_756, w_11, by decide +kernel, by decide +kernel, by decide +kernel, by decide +kernel, by decide +kernel⟩
theorem mk_Mo_inUse : okM m_Mo_inUse 1 := ⟨w_752, w_11, by decide +kernel, by decide +kernel, by decide +kernel, by decide +kernel, by decide +kernel⟩
theorem mk_Mo_renew : okM m_Mo_renew 2 := ⟨w_748, w_11, by decide +kernel, by decide +kernel, by decide +kernel, by decide +kernel, by decide +kernel⟩
theorem mk_Mo_load : okM m_Mo_load 0 := ⟨w_708, w_11, by decide +kernel, by decide +kernel, by decide +kernel, by decide +kernel, by decide +kernel⟩
theorem mk_Mo_queue : okM m_Mo_queue 1 := ⟨w_760, w_11, by decide +kernel, by decide +kernel, by decide +kernel, by decide +kernel, by decide +kernel⟩
theorem mk_Mo_swap : okM m_Mo_swap 0 := ⟨w_764, w_11, by decide +kernel, by decide +kernel, by decide +kernel, by decide +kernel, by decide +kernel⟩
theorem mk_Mo_repeat : okM m_Mo_repeat 1 := ⟨w_788, w_11, by decide +kernel, by decide +kernel, by decide +kernel, by decide +kernel, by decide +kernel⟩
theorem mk_Mo_push : okM m_Mo_push 3 := ⟨w_799, w_11, by decide +kernel, by decide +kernel, by decide +kernel, by decide +kernel, by decide +kernel⟩
theorem mk_Mo_isThread : okM m_Mo_isThread 1 := ⟨w_795, w_11, by decide +kernel, by decide +kernel, by decide +kernel, by decide +kernel, by decide +kernel⟩
theorem mk_Mo_start : okM m_Mo_start 3 := ⟨w_792, w_11, by decide +kernel, by decide +kernel, by decide +kernel, by decide +kernel, by decide +kernel⟩
theorem mk_Mo_once : okM m_Mo_once 1 := ⟨w_807, w_11, by decide +kernel, by decide +kernel, by decide +kernel, by decide +kernel, by decide +kernel⟩
theorem mk_Mo_step : okM m_Mo_step 2 := ⟨w_803, w_11, by decide +kernel, by decide +kernel, by decide +kernel, by decide +kernel, by decide +kernel⟩
theorem mk_Mo_frame : okM m_Mo_frame 2 := ⟨w_811, w_11, by decide +kernel, by decide +kernel, by decide +kernel, by decide +kernel, by decide +kernel⟩
theorem mk_Mo_result : okM m_Mo_result 1 := ⟨w_815, w_11, by decide +kernel, by decide +kernel, by decide +kernel, by decide +kernel, by decide +kernel⟩
theorem mk_Mo_edition : okM m_Mo_edition 1 := ⟨w_819, w_11, by decide +kernel, by decide +kernel, by decide +kernel, by decide +kernel, by decide +kernel⟩
theorem mk_Mo_kept : okM m_Mo_kept 1 := ⟨w_823, w_11, by decide +kernel, by decide +kernel, by decide +kernel, by decide +kernel, by decide +kernel⟩
theorem mk_Cl_init : okM m_Cl_init 0 := ⟨w_187, w_9, by decide +kernel, by decide +kernel, by decide +kernel, by decide +kernel, by decide +kernel⟩
theorem mk_Cl_enter : okM m_Cl_enter 3 := ⟨w_532, w_9, by decide +kernel, by decide +kernel, by decide +kernel, by decide +kernel, by decide +kernel⟩
theorem mk_Cl_advance : okM m_Cl_advance 1 := ⟨w_547, w_9, by decide +kernel, by decide +kernel, by decide +kernel, by decide +kernel, by decide +kernel⟩
theorem mk_Cl_leave : okM m_Cl_leave 1 := ⟨w_551, w_9, by decide +kernel, by decide +kernel, by decide +kernel, by decide +kernel, by decide +kernel⟩
theorem mk_Ch_init : okM m_Ch_init 0 := ⟨w_121, w_6, by decide +kernel, by decide +kernel, by decide +kernel, by decide +kernel, by decide +kernel⟩
theorem mk_Ch_put : okM m_Ch_put 4 := ⟨w_459, w_6, by decide +kernel, by decide +kernel, by decide +kernel, by decide +kernel, by decide +kernel⟩
theorem mk_Ch_free : okM m_Ch_free 1 := ⟨w_467, w_6, by decide +kernel, by decide +kernel, by decide +kernel, by decide +kernel, by decide +kernel⟩
theorem mk_Ch_treat : okM m_Ch_treat 1 := ⟨w_343, w_6, by decide +kernel, by decide +kernel, by decide +kernel, by decide +kernel, by decide +kernel⟩
theorem mk_Ch_change : okM m_Ch_change 3 := ⟨w_347, w_6, by decide +kernel, by decide +kernel, by decide +kernel, by decide +kernel, by decide +kernel⟩
theorem mk_Cd_init : okM m_Cd_init 0 := ⟨w_40, w_4, by decide +kernel, by decide +kernel, by decide +kernel, by decide +kernel, by decide +kernel⟩
theorem mk_Cd_clear : okM m_Cd_clear 0 := ⟨w_317, w_4, by decide +kernel, by decide +kernel, by decide +kernel, by decide +kernel, by decide +kernel⟩
theorem mk_Cd_become : okM m_Cd_become 1 := ⟨w_284, w_4, by decide +kernel, by decide +kernel, by decide +kernel, by decide +kernel, by decide +kernel⟩
theorem mk_Cd_add : okM m_Cd_add 3 := ⟨w_330, w_4, by decide +kernel, by decide +kernel, by decide +kernel, by decide +kernel, by decide +kernel⟩
theorem mk_Cd_opAt : okM m_Cd_opAt 1 := ⟨w_363, w_4, by decide +kernel, by decide +kernel, by decide +kernel, by decide +kernel, by decide +kernel⟩
theorem mk_Cd_firstOperandAt : okM m_Cd_firstOperandAt 1 := ⟨w_405, w_4, by decide +kernel, by decide +kernel, by decide +kernel, by decide +kernel, by decide +kernel⟩
theorem mk_Cd_secondOperandAt : okM m_Cd_secondOperandAt 1 := ⟨w_409, w_4, by decide +kernel, by decide +kernel, by decide +kernel, by decide +kernel, by decide +kernel⟩
theorem mk_Cd_raiseAdditions : okM m_Cd_raiseAdditions 1 := ⟨w_359, w_4, by decide +kernel, by decide +kernel, by decide +kernel, by decide +kernel, by decide +kernel⟩
theorem mk_Df_init : okM m_Df_init 0 := ⟨w_27, w_2, by decide +kernel, by decide +kernel, by decide +kernel, by decide +kernel, by decide +kernel⟩
theorem mk_Df_clear : okM m_Df_clear 0 := ⟨w_73, w_2, by decide +kernel, by decide +kernel, by decide +kernel, by decide +kernel, by decide +kernel⟩
theorem mk_Df_become : okM m_Df_become 1 := ⟨w_273, w_2, by decide +kernel, by decide +kernel, by decide +kernel, by decide +kernel, by decide +kernel⟩
theorem mk_Df_addInterface : okM m_Df_addInterface 1 := ⟨w_297, w_2, by decide +kernel, by decide +kernel, by decide +kernel, by decide +kernel, by decide +kernel⟩
theorem mk_Df_addField : okM m_Df_addField 3 := ⟨w_305, w_2, by decide +kernel, by decide +kernel, by decide +kernel, by decide +kernel, by decide +kernel⟩
theorem mk_Df_addMethod : okM m_Df_addMethod 2 := ⟨w_313, w_2, by decide +kernel, by decide +kernel, by decide +kernel, by decide +kernel, by decide +kernel⟩
theorem mk_Df_findMethod : okM m_Df_findMethod 1 := ⟨w_367, w_2, by decide +kernel, by decide +kernel, by decide +kernel, by decide +kernel, by decide +kernel⟩
theorem mk_Df_hasInterface : okM m_Df_hasInterface 1 := ⟨w_498, w_2, by decide +kernel, by decide +kernel, by decide +kernel, by decide +kernel, by decide +kernel⟩
theorem mk_Df_hasEqualInterfaces : okM m_Df_hasEqualInterfaces 0 := ⟨w_379, w_2, by decide +kernel, by decide +kernel, by decide +kernel, by decide +kernel, by decide +kernel⟩
theorem mk_Df_hasFieldsOfOneName : okM m_Df_hasFieldsOfOneName 0 := ⟨w_383, w_2, by decide +kernel, by decide +kernel, by decide +kernel, by decide +kernel, by decide +kernel⟩
theorem mk_Df_hasMethodsOfOneName : okM m_Df_hasMethodsOfOneName 0 := ⟨w_387, w_2, by decide +kernel, by decide +kernel, by decide +kernel, by decide +kernel, by decide +kernel⟩
theorem mk_Df_hasFieldsOf : okM m_Df_hasFieldsOf 1 := ⟨w_502, w_2, by decide +kernel, by decide +kernel, by decide +kernel, by decide +kernel, by decide +kernel⟩
theorem mk_Df_hasInterfacesOf : okM m_Df_hasInterfacesOf 1 := ⟨w_494, w_2, by decide +kernel, by decide +kernel, by decide +kernel, by decide +kernel, by decide +kernel⟩
theorem mk_Df_hasMethodNamesOf : okM m_Df_hasMethodNamesOf 1 := ⟨w_506, w_2, by decide +kernel, by decide +kernel, by decide +kernel, by decide +kernel, by decide +kernel⟩
theorem mk_Df_hasMethodFlagsOf : okM m_Df_hasMethodFlagsOf 1 := ⟨w_511, w_2, by decide +kernel, by decide +kernel, by decide +kernel, by decide +kernel, by decide +kernel⟩
theorem mk_Fr_init : okM m_Fr_init 0 := ⟨w_194, w_10, by decide +kernel, by decide +kernel, by decide +kernel, by decide +kernel, by decide +kernel⟩
theorem mk_Fr_begin : okM m_Fr_begin 3 := ⟨w_538, w_10, by decide +kernel, by decide +kernel, by decide +kernel, by decide +kernel, by decide +kernel⟩
theorem mk_Lc_init : okM m_Lc_init 0 := ⟨w_425, w_14, by decide +kernel, by decide +kernel, by decide +kernel, by decide +kernel, by decide +kernel⟩
theorem mk_Lc_addEdition : okM m_Lc_addEdition 1 := ⟨w_449, w_14, by decide +kernel, by decide +kernel, by decide +kernel, by decide +kernel, by decide +kernel⟩
theorem mk_Mt_init : okM m_Mt_init 0 := ⟨w_34, w_3, by decide +kernel, by decide +kernel, by decide +kernel, by decide +kernel, by decide +kernel⟩
theorem mk_Mt_become : okM m_Mt_become 1 := ⟨w_280, w_3, by decide +kernel, by decide +kernel, by decide +kernel, by decide +kernel, by decide +kernel⟩
theorem mk_Ru_firstBroken : okM m_Ru_firstBroken 4 := ⟨w_486, w_13, by decide +kernel, by decide +kernel, by decide +kernel, by decide +kernel, by decide +kernel⟩
theorem mk_Ru_firstBrokenAlone : okM m_Ru_firstBrokenAlone 2 := ⟨w_375, w_13, by decide +kernel, by decide +kernel, by decide +kernel, by decide +kernel, by decide +kernel⟩
theorem mk_Ru_firstBrokenBeside : okM m_Ru_firstBrokenBeside 3 := ⟨w_490, w_13, by decide +kernel, by decide +kernel, by decide +kernel, by decide +kernel, by decide +kernel⟩
theorem mk_Ru_hasUnknownOp : okM m_Ru_hasUnknownOp 1 := ⟨w_390, w_13, by decide +kernel, by decide +kernel, by decide +kernel, by decide +kernel, by decide +kernel⟩
theorem mk_Ru_meetsItselfAbove : okM m_Ru_meetsItselfAbove 2 := ⟨w_394, w_13, by decide +kernel, by decide +kernel, by decide +kernel, by decide +kernel, by decide +kernel⟩
theorem mk_Ru_lacksSuper : okM m_Ru_lacksSuper 2 := ⟨w_398, w_13, by decide +kernel, by decide +kernel, by decide +kernel, by decide +kernel, by decide +kernel⟩
theorem mk_Ru_lacksCalledMethod : okM m_Ru_lacksCalledMethod 2 := ⟨w_401, w_13, by decide +kernel, by decide +kernel, by decide +kernel, by decide +kernel, by decide +kernel⟩
theorem mk_Ru_isCallable : okM m_Ru_isCallable 4 := ⟨w_412, w_13, by decide +kernel, by decide +kernel, by decide +kernel, by decide +kernel, by decide +kernel⟩
theorem mk_Sh_init : okM m_Sh_init 0 := ⟨w_109, w_5, by decide +kernel, by decide +kernel, by decide +kernel, by decide +kernel, by decide +kernel⟩
theorem mk_Sh_find : okM m_Sh_find 1 := ⟨w_269, w_5, by decide +kernel, by decide +kernel, by decide +kernel, by decide +kernel, by decide +kernel⟩
theorem mk_Sh_add : okM m_Sh_add 2 := ⟨w_420, w_5, by decide +kernel, by decide +kernel, by decide +kernel, by decide +kernel, by decide +kernel⟩
theorem mk_Tf_init : okM m_Tf_init 0 := ⟨w_128, w_7, by decide +kernel, by decide +kernel, by decide +kernel, by decide +kernel, by decide +kernel⟩
theorem mk_Tf_isFor : okM m_Tf_isFor 1 := ⟨w_351, w_7, by decide +kernel, by decide +kernel, by decide +kernel, by decide +kernel, by decide +kernel⟩
theorem mk_Tf_change : okM m_Tf_change 1 := ⟨w_355, w_7, by decide +kernel, by decide +kernel, by decide +kernel, by decide +kernel, by decide +kernel⟩
theorem mk_Tf_emptyAllCode : okM m_Tf_emptyAllCode 1 := ⟨w_370, w_7, by decide +kernel, by decide +kernel, by decide +kernel, by decide +kernel, by decide +kernel⟩
theorem mk_Tr_init : okM m_Tr_init 0 := ⟨w_160, w_8, by decide +kernel, by decide +kernel, by decide +kernel, by decide +kernel, by decide +kernel⟩
theorem mk_Tr_take : okM m_Tr_take 2 := ⟨w_338, w_8, by decide +kernel, by decide +kernel, by decide +kernel, by decide +kernel, by decide +kernel⟩
theorem k_HE_init_9 : okCI m_HE_init 9 m_Df_init 0 := ⟨Or.inl w_25, mk_Df_init, ⟨w_26, rfl, rfl⟩, by decide +kernel, by decide +kernel⟩
theorem k_HE_init_22 : okCI m_HE_init 22 m_Sh_init 0 := ⟨Or.inr ⟨"HotEditions", w_107⟩, mk_Sh_init, ⟨w_108, rfl, rfl⟩, by decide +kernel, by decide +kernel⟩
theorem k_HE_init_29 : okCI m_HE_init 29 m_Ch_init 0 := ⟨Or.inl w_119, mk_Ch_init, ⟨w_120, rfl, rfl⟩, by decide +kernel, by decide +kernel⟩
theorem k_HE_init_43 : okCI m_HE_init 43 m_Tr_init 0 := ⟨Or.inr ⟨"HotEditions", w_158⟩, mk_Tr_init, ⟨w_159, rfl, rfl⟩, by decide +kernel, by decide +kernel⟩
theorem k_HE_init_54 : okCI m_HE_init 54 m_Cl_init 0 := ⟨Or.inl w_185, mk_Cl_init, ⟨w_186, rfl, rfl⟩, by decide +kernel, by decide +kernel⟩
theorem k_HE_blank_55 : okCV m_HE_blank 55 m_Df_clear kDf 0 := ⟨Or.inl w_261, mk_Df_clear, ⟨w_71, w_72⟩, by decide +kernel, ⟨_, rfl, rfl⟩, by decide +kernel⟩
theorem k_HE_copy_58 : okCV m_HE_copy 58 m_Sh_find kSh 1 := ⟨Or.inl w_266, mk_Sh_find, ⟨w_267, w_268⟩, by decide +kernel, ⟨_, rfl, rfl⟩, by decide +kernel⟩
theorem k_HE_copy_67 : okCV m_HE_copy 67 m_Df_become kDf 1 := ⟨Or.inl w_270, mk_Df_become, ⟨w_271, w_272⟩, by decide +kernel, ⟨_, rfl, rfl⟩, by decide +kernel⟩
theorem k_HE_implement_75 : okCV m_HE_implement 75 m_Df_addInterface kDf 1 := ⟨Or.inl w_294, mk_Df_addInterface, ⟨w_295, w_296⟩, by decide +kernel, ⟨_, rfl, rfl⟩, by decide +kernel⟩
theorem k_HE_field_79 : okCV m_HE_field 79 m_Df_addField kDf 3 := ⟨Or.inl w_302, mk_Df_addField, ⟨w_303, w_304⟩, by decide +kernel, ⟨_, rfl, rfl⟩, by decide +kernel⟩
theorem k_HE_method_83 : okCV m_HE_method 83 m_Df_addMethod kDf 2 := ⟨Or.inl w_310, mk_Df_addMethod, ⟨w_311, w_312⟩, by decide +kernel, ⟨_, rfl, rfl⟩, by decide +kernel⟩
theorem k_HE_choose_100 : okCV m_HE_choose 100 m_Cd_clear kCd 0 := ⟨Or.inl w_322, mk_Cd_clear, ⟨w_315, w_316⟩, by decide +kernel, ⟨_, rfl, rfl⟩, by decide +kernel⟩
theorem k_HE_code_103 : okCV m_HE_code 103 m_Cd_add kCd 3 := ⟨Or.inl w_327, mk_Cd_add, ⟨w_328, w_329⟩, by decide +kernel, ⟨_, rfl, rfl⟩, by decide +kernel⟩
theorem k_HE_load_106 : okCV m_HE_load 106 m_Tr_take kTr 2 := ⟨Or.inl w_335, mk_Tr_take, ⟨w_336, w_337⟩, by decide +kernel, ⟨_, rfl, rfl⟩, by decide +kernel⟩
theorem k_HE_load_110 : okCV m_HE_load 110 m_Ch_treat kCh 1 := ⟨Or.inl w_340, mk_Ch_treat, ⟨w_341, w_342⟩, by decide +kernel, ⟨_, rfl, rfl⟩, by decide +kernel⟩
theorem k_HE_load_117 : okCS m_HE_load 117 m_Ru_firstBrokenAlone 2 := ⟨Or.inl w_373, mk_Ru_firstBrokenAlone, w_374, by decide +kernel, by decide +kernel⟩
theorem k_HE_load_123 : okCS m_HE_load 123 m_HE_isClass 1 := ⟨Or.inl w_414, mk_HE_isClass, w_415, by decide +kernel, by decide +kernel⟩
theorem k_HE_load_58 : okCV m_HE_load 58 m_Sh_find kSh 1 := ⟨Or.inl w_266, mk_Sh_find, ⟨w_267, w_268⟩, by decide +kernel, ⟨_, rfl, rfl⟩, by decide +kernel⟩
theorem k_HE_load_126 : okCV m_HE_load 126 m_Sh_add kSh 2 := ⟨Or.inl w_417, mk_Sh_add, ⟨w_418, w_419⟩, by decide +kernel, ⟨_, rfl, rfl⟩, by decide +kernel⟩
theorem k_HE_transformer_123 : okCS m_HE_transformer 123 m_HE_isClass 1 := ⟨Or.inl w_414, mk_HE_isClass, w_415, by decide +kernel, by decide +kernel⟩
theorem k_HE_transformer_129 : okCV m_HE_transformer 129 m_Ch_put kCh 4 := ⟨Or.inl w_456, mk_Ch_put, ⟨w_457, w_458⟩, by decide +kernel, ⟨_, rfl, rfl⟩, by decide +kernel⟩
theorem k_HE_remove_133 : okCV m_HE_remove 133 m_Ch_free kCh 1 := ⟨Or.inl w_464, mk_Ch_free, ⟨w_465, w_466⟩, by decide +kernel, ⟨_, rfl, rfl⟩, by decide +kernel⟩
theorem k_HE_queue_58 : okCV m_HE_queue 58 m_Sh_find kSh 1 := ⟨Or.inl w_266, mk_Sh_find, ⟨w_267, w_268⟩, by decide +kernel, ⟨_, rfl, rfl⟩, by decide +kernel⟩
theorem k_HE_queue_136 : okCV m_HE_queue 136 m_HE_isInBatch kHE 1 := ⟨Or.inl w_472, mk_HE_isInBatch, ⟨w_474, ws_HE_isInBatch⟩, by decide +kernel, ⟨_, rfl, rfl⟩, by decide +kernel⟩
theorem k_HE_queue_106 : okCV m_HE_queue 106 m_Tr_take kTr 2 := ⟨Or.inl w_335, mk_Tr_take, ⟨w_336, w_337⟩, by decide +kernel, ⟨_, rfl, rfl⟩, by decide +kernel⟩
theorem k_HE_swap_139 : okCV m_HE_swap 139 m_HE_firstBrokenOfBatch kHE 0 := ⟨Or.inl w_480, mk_HE_firstBrokenOfBatch, ⟨w_482, ws_HE_firstBrokenOfBatch⟩, by decide +kernel, ⟨_, rfl, rfl⟩, by decide +kernel⟩
theorem k_HE_swap_143 : okCV m_HE_swap 143 m_HE_installBatch kHE 0 := ⟨Or.inl w_512, mk_HE_installBatch, ⟨w_514, ws_HE_installBatch⟩, by decide +kernel, ⟨_, rfl, rfl⟩, by decide +kernel⟩
theorem k_HE_repeat_58 : okCV m_HE_repeat 58 m_Sh_find kSh 1 := ⟨Or.inl w_266, mk_Sh_find, ⟨w_267, w_268⟩, by decide +kernel, ⟨_, rfl, rfl⟩, by decide +kernel⟩
theorem k_HE_repeat_106 : okCV m_HE_repeat 106 m_Tr_take kTr 2 := ⟨Or.inl w_335, mk_Tr_take, ⟨w_336, w_337⟩, by decide +kernel, ⟨_, rfl, rfl⟩, by decide +kernel⟩
theorem k_HE_repeat_149 : okCV m_HE_repeat 149 m_Ch_change kCh 3 := ⟨Or.inl w_521, mk_Ch_change, ⟨w_345, w_346⟩, by decide +kernel, ⟨_, rfl, rfl⟩, by decide +kernel⟩
theorem k_HE_repeat_153 : okCS m_HE_repeat 153 m_Ru_firstBroken 4 := ⟨Or.inl w_484, mk_Ru_firstBroken, w_485, by decide +kernel, by decide +kernel⟩
theorem k_HE_repeat_157 : okCV m_HE_repeat 157 m_Lc_addEdition kLc 1 := ⟨Or.inl w_516, mk_Lc_addEdition, ⟨w_447, w_448⟩, by decide +kernel, ⟨_, rfl, rfl⟩, by decide +kernel⟩
theorem k_HE_start_160 : okCS m_HE_start 160 m_HE_isThread 1 := ⟨Or.inl w_526, mk_HE_isThread, w_527, by decide +kernel, by decide +kernel⟩
theorem k_HE_start_166 : okCV m_HE_start 166 m_Cl_enter kCl 3 := ⟨Or.inl w_529, mk_Cl_enter, ⟨w_530, w_531⟩, by decide +kernel, ⟨_, rfl, rfl⟩, by decide +kernel⟩
theorem k_HE_step_160 : okCS m_HE_step 160 m_HE_isThread 1 := ⟨Or.inl w_526, mk_HE_isThread, w_527, by decide +kernel, by decide +kernel⟩
theorem k_HE_step_170 : okCV m_HE_step 170 m_Cl_advance kCl 1 := ⟨Or.inl w_544, mk_Cl_advance, ⟨w_545, w_546⟩, by decide +kernel, ⟨_, rfl, rfl⟩, by decide +kernel⟩
theorem k_HE_frame_174 : okCV m_HE_frame 174 m_HE_findFrame kHE 2 := ⟨Or.inl w_560, mk_HE_findFrame, ⟨w_562, ws_HE_findFrame⟩, by decide +kernel, ⟨_, rfl, rfl⟩, by decide +kernel⟩
theorem k_HE_result_160 : okCS m_HE_result 160 m_HE_isThread 1 := ⟨Or.inl w_526, mk_HE_isThread, w_527, by decide +kernel, by decide +kernel⟩
theorem k_HE_edition_58 : okCV m_HE_edition 58 m_Sh_find kSh 1 := ⟨Or.inl w_266, mk_Sh_find, ⟨w_267, w_268⟩, by decide +kernel, ⟨_, rfl, rfl⟩, by decide +kernel⟩
theorem k_HE_kept_58 : okCV m_HE_kept 58 m_Sh_find kSh 1 := ⟨Or.inl w_266, mk_Sh_find, ⟨w_267, w_268⟩, by decide +kernel, ⟨_, rfl, rfl⟩, by decide +kernel⟩
theorem k_HE_kept_174 : okCV m_HE_kept 174 m_HE_findFrame kHE 2 := ⟨Or.inl w_560, mk_HE_findFrame, ⟨w_562, ws_HE_findFrame⟩, by decide +kernel, ⟨_, rfl, rfl⟩, by decide +kernel⟩
theorem k_HE_kept_190 : okCV m_HE_kept 190 m_HE_isFirstOfItsEdition kHE 3 := ⟨Or.inl w_576, mk_HE_isFirstOfItsEdition, ⟨w_578, ws_HE_isFirstOfItsEdition⟩, by decide +kernel, ⟨_, rfl, rfl⟩, by decide +kernel⟩
theorem k_HE_firstBrokenOfBatch_58 : okCV m_HE_firstBrokenOfBatch 58 m_Sh_find kSh 1 := ⟨Or.inl w_266, mk_Sh_find, ⟨w_267, w_268⟩, by decide +kernel, ⟨_, rfl, rfl⟩, by decide +kernel⟩
theorem k_HE_firstBrokenOfBatch_110 : okCV m_HE_firstBrokenOfBatch 110 m_Ch_treat kCh 1 := ⟨Or.inl w_340, mk_Ch_treat, ⟨w_341, w_342⟩, by decide +kernel, ⟨_, rfl, rfl⟩, by decide +kernel⟩
theorem k_HE_firstBrokenOfBatch_153 : okCS m_HE_firstBrokenOfBatch 153 m_Ru_firstBroken 4 := ⟨Or.inl w_484, mk_Ru_firstBroken, w_485, by decide +kernel, by decide +kernel⟩
theorem k_HE_installBatch_58 : okCV m_HE_installBatch 58 m_Sh_find kSh 1 := ⟨Or.inl w_266, mk_Sh_find, ⟨w_267, w_268⟩, by decide +kernel, ⟨_, rfl, rfl⟩, by decide +kernel⟩
theorem k_HE_installBatch_157 : okCV m_HE_installBatch 157 m_Lc_addEdition kLc 1 := ⟨Or.inl w_516, mk_Lc_addEdition, ⟨w_447, w_448⟩, by decide +kernel, ⟨_, rfl, rfl⟩, by decide +kernel⟩
theorem k_HE_installBatch_67 : okCV m_HE_installBatch 67 m_Df_become kDf 1 := ⟨Or.inl w_270, mk_Df_become, ⟨w_271, w_272⟩, by decide +kernel, ⟨_, rfl, rfl⟩, by decide +kernel⟩
theorem k_HE_findFrame_160 : okCS m_HE_findFrame 160 m_HE_isThread 1 := ⟨Or.inl w_526, mk_HE_isThread, w_527, by decide +kernel, by decide +kernel⟩
theorem k_HE_isFirstOfItsEdition_174 : okCV m_HE_isFirstOfItsEdition 174 m_HE_findFrame kHE 2 := ⟨Or.inl w_560, mk_HE_findFrame, ⟨w_562, ws_HE_findFrame⟩, by decide +kernel, ⟨_, rfl, rfl⟩, by decide +kernel⟩
theorem k_Mo_init_66 : okCV m_Mo_init 66 m_Mo_blank kMo 0 := ⟨Or.inl w_586, mk_Mo_blank, ⟨w_587, w_588⟩, by decide +kernel, ⟨_, rfl, rfl⟩, by decide +kernel⟩
theorem k_Mo_transcribe_69 : okCV m_Mo_transcribe 69 m_Mo_get kMo 2 := ⟨Or.inl w_666, mk_Mo_get, ⟨w_668, ws_Mo_get⟩, by decide +kernel, ⟨_, rfl, rfl⟩, by decide +kernel⟩
theorem k_Mo_transcribe_73 : okCV m_Mo_transcribe 73 m_Mo_put kMo 3 := ⟨Or.inl w_590, mk_Mo_put, ⟨w_592, ws_Mo_put⟩, by decide +kernel, ⟨_, rfl, rfl⟩, by decide +kernel⟩
theorem k_Mo_blank_73 : okCV m_Mo_blank 73 m_Mo_put kMo 3 := ⟨Or.inl w_590, mk_Mo_put, ⟨w_592, ws_Mo_put⟩, by decide +kernel, ⟨_, rfl, rfl⟩, by decide +kernel⟩
theorem k_Mo_copy_77 : okCV m_Mo_copy 77 m_Mo_loaded kMo 1 := ⟨Or.inl w_658, mk_Mo_loaded, ⟨w_660, ws_Mo_loaded⟩, by decide +kernel, ⟨_, rfl, rfl⟩, by decide +kernel⟩
theorem k_Mo_copy_81 : okCV m_Mo_copy 81 m_Mo_transcribe kMo 2 := ⟨Or.inl w_662, mk_Mo_transcribe, ⟨w_664, ws_Mo_transcribe⟩, by decide +kernel, ⟨_, rfl, rfl⟩, by decide +kernel⟩
theorem k_Mo_set_73 : okCV m_Mo_set 73 m_Mo_put kMo 3 := ⟨Or.inl w_590, mk_Mo_put, ⟨w_592, ws_Mo_put⟩, by decide +kernel, ⟨_, rfl, rfl⟩, by decide +kernel⟩
theorem k_Mo_implement_69 : okCV m_Mo_implement 69 m_Mo_get kMo 2 := ⟨Or.inl w_666, mk_Mo_get, ⟨w_668, ws_Mo_get⟩, by decide +kernel, ⟨_, rfl, rfl⟩, by decide +kernel⟩
theorem k_Mo_implement_73 : okCV m_Mo_implement 73 m_Mo_put kMo 3 := ⟨Or.inl w_590, mk_Mo_put, ⟨w_592, ws_Mo_put⟩, by decide +kernel, ⟨_, rfl, rfl⟩, by decide +kernel⟩
theorem k_Mo_field_69 : okCV m_Mo_field 69 m_Mo_get kMo 2 := ⟨Or.inl w_666, mk_Mo_get, ⟨w_668, ws_Mo_get⟩, by decide +kernel, ⟨_, rfl, rfl⟩, by decide +kernel⟩
theorem k_Mo_field_73 : okCV m_Mo_field 73 m_Mo_put kMo 3 := ⟨Or.inl w_590, mk_Mo_put, ⟨w_592, ws_Mo_put⟩, by decide +kernel, ⟨_, rfl, rfl⟩, by decide +kernel⟩
theorem k_Mo_method_69 : okCV m_Mo_method 69 m_Mo_get kMo 2 := ⟨Or.inl w_666, mk_Mo_get, ⟨w_668, ws_Mo_get⟩, by decide +kernel, ⟨_, rfl, rfl⟩, by decide +kernel⟩
theorem k_Mo_method_85 : okCS m_Mo_method 85 m_Mo_methodAt 1 := ⟨Or.inl w_686, mk_Mo_methodAt, w_687, by decide +kernel, by decide +kernel⟩
theorem k_Mo_method_73 : okCV m_Mo_method 73 m_Mo_put kMo 3 := ⟨Or.inl w_590, mk_Mo_put, ⟨w_592, ws_Mo_put⟩, by decide +kernel, ⟨_, rfl, rfl⟩, by decide +kernel⟩
theorem k_Mo_choose_69 : okCV m_Mo_choose 69 m_Mo_get kMo 2 := ⟨Or.inl w_666, mk_Mo_get, ⟨w_668, ws_Mo_get⟩, by decide +kernel, ⟨_, rfl, rfl⟩, by decide +kernel⟩
theorem k_Mo_choose_85 : okCS m_Mo_choose 85 m_Mo_methodAt 1 := ⟨Or.inl w_686, mk_Mo_methodAt, w_687, by decide +kernel, by decide +kernel⟩
theorem k_Mo_choose_73 : okCV m_Mo_choose 73 m_Mo_put kMo 3 := ⟨Or.inl w_590, mk_Mo_put, ⟨w_592, ws_Mo_put⟩, by decide +kernel, ⟨_, rfl, rfl⟩, by decide +kernel⟩
theorem k_Mo_code_85 : okCS m_Mo_code 85 m_Mo_methodAt 1 := ⟨Or.inl w_686, mk_Mo_methodAt, w_687, by decide +kernel, by decide +kernel⟩
theorem k_Mo_code_69 : okCV m_Mo_code 69 m_Mo_get kMo 2 := ⟨Or.inl w_666, mk_Mo_get, ⟨w_668, ws_Mo_get⟩, by decide +kernel, ⟨_, rfl, rfl⟩, by decide +kernel⟩
theorem k_Mo_code_73 : okCV m_Mo_code 73 m_Mo_put kMo 3 := ⟨Or.inl w_590, mk_Mo_put, ⟨w_592, ws_Mo_put⟩, by decide +kernel, ⟨_, rfl, rfl⟩, by decide +kernel⟩
theorem k_Mo_find_69 : okCV m_Mo_find 69 m_Mo_get kMo 2 := ⟨Or.inl w_666, mk_Mo_get, ⟨w_668, ws_Mo_get⟩, by decide +kernel, ⟨_, rfl, rfl⟩, by decide +kernel⟩
theorem k_Mo_find_85 : okCS m_Mo_find 85 m_Mo_methodAt 1 := ⟨Or.inl w_686, mk_Mo_methodAt, w_687, by decide +kernel, by decide +kernel⟩
theorem k_Mo_change_69 : okCV m_Mo_change 69 m_Mo_get kMo 2 := ⟨Or.inl w_666, mk_Mo_get, ⟨w_668, ws_Mo_get⟩, by decide +kernel, ⟨_, rfl, rfl⟩, by decide +kernel⟩
theorem k_Mo_change_73 : okCV m_Mo_change 73 m_Mo_put kMo 3 := ⟨Or.inl w_590, mk_Mo_put, ⟨w_592, ws_Mo_put⟩, by decide +kernel, ⟨_, rfl, rfl⟩, by decide +kernel⟩
theorem k_Mo_change_89 : okCV m_Mo_change 89 m_Mo_find kMo 2 := ⟨Or.inl w_721, mk_Mo_find, ⟨w_723, ws_Mo_find⟩, by decide +kernel, ⟨_, rfl, rfl⟩, by decide +kernel⟩
theorem k_Mo_change_85 : okCS m_Mo_change 85 m_Mo_methodAt 1 := ⟨Or.inl w_686, mk_Mo_methodAt, w_687, by decide +kernel, by decide +kernel⟩
theorem k_Mo_changes_92 : okCV m_Mo_changes 92 m_Mo_change kMo 2 := ⟨Or.inl w_717, mk_Mo_change, ⟨w_719, ws_Mo_change⟩, by decide +kernel, ⟨_, rfl, rfl⟩, by decide +kernel⟩
theorem k_Mo_treat_95 : okCV m_Mo_treat 95 m_Mo_changes kMo 3 := ⟨Or.inl w_713, mk_Mo_changes, ⟨w_715, ws_Mo_changes⟩, by decide +kernel, ⟨_, rfl, rfl⟩, by decide +kernel⟩
theorem k_Mo_treat_81 : okCV m_Mo_treat 81 m_Mo_transcribe kMo 2 := ⟨Or.inl w_662, mk_Mo_transcribe, ⟨w_664, ws_Mo_transcribe⟩, by decide +kernel, ⟨_, rfl, rfl⟩, by decide +kernel⟩
theorem k_Mo_twice_69 : okCV m_Mo_twice 69 m_Mo_get kMo 2 := ⟨Or.inl w_666, mk_Mo_get, ⟨w_668, ws_Mo_get⟩, by decide +kernel, ⟨_, rfl, rfl⟩, by decide +kernel⟩
theorem k_Mo_strangeOp_69 : okCV m_Mo_strangeOp 69 m_Mo_get kMo 2 := ⟨Or.inl w_666, mk_Mo_get, ⟨w_668, ws_Mo_get⟩, by decide +kernel, ⟨_, rfl, rfl⟩, by decide +kernel⟩
theorem k_Mo_strangeOp_85 : okCS m_Mo_strangeOp 85 m_Mo_methodAt 1 := ⟨Or.inl w_686, mk_Mo_methodAt, w_687, by decide +kernel, by decide +kernel⟩
theorem k_Mo_circle_69 : okCV m_Mo_circle 69 m_Mo_get kMo 2 := ⟨Or.inl w_666, mk_Mo_get, ⟨w_668, ws_Mo_get⟩, by decide +kernel, ⟨_, rfl, rfl⟩, by decide +kernel⟩
theorem k_Mo_circle_77 : okCV m_Mo_circle 77 m_Mo_loaded kMo 1 := ⟨Or.inl w_658, mk_Mo_loaded, ⟨w_660, ws_Mo_loaded⟩, by decide +kernel, ⟨_, rfl, rfl⟩, by decide +kernel⟩
theorem k_Mo_callsNothing_69 : okCV m_Mo_callsNothing 69 m_Mo_get kMo 2 := ⟨Or.inl w_666, mk_Mo_get, ⟨w_668, ws_Mo_get⟩, by decide +kernel, ⟨_, rfl, rfl⟩, by decide +kernel⟩
theorem k_Mo_callsNothing_85 : okCS m_Mo_callsNothing 85 m_Mo_methodAt 1 := ⟨Or.inl w_686, mk_Mo_methodAt, w_687, by decide +kernel, by decide +kernel⟩
theorem k_Mo_callsNothing_89 : okCV m_Mo_callsNothing 89 m_Mo_find kMo 2 := ⟨Or.inl w_721, mk_Mo_find, ⟨w_723, ws_Mo_find⟩, by decide +kernel, ⟨_, rfl, rfl⟩, by decide +kernel⟩
theorem k_Mo_callsNothing_77 : okCV m_Mo_callsNothing 77 m_Mo_loaded kMo 1 := ⟨Or.inl w_658, mk_Mo_loaded, ⟨w_660, ws_Mo_loaded⟩, by decide +kernel, ⟨_, rfl, rfl⟩, by decide +kernel⟩
theorem k_Mo_plainRules_69 : okCV m_Mo_plainRules 69 m_Mo_get kMo 2 := ⟨Or.inl w_666, mk_Mo_get, ⟨w_668, ws_Mo_get⟩, by decide +kernel, ⟨_, rfl, rfl⟩, by decide +kernel⟩
theorem k_Mo_plainRules_99 : okCV m_Mo_plainRules 99 m_Mo_twice kMo 4 := ⟨Or.inl w_729, mk_Mo_twice, ⟨w_731, ws_Mo_twice⟩, by decide +kernel, ⟨_, rfl, rfl⟩, by decide +kernel⟩
theorem k_Mo_plainRules_103 : okCV m_Mo_plainRules 103 m_Mo_strangeOp kMo 1 := ⟨Or.inl w_733, mk_Mo_strangeOp, ⟨w_735, ws_Mo_strangeOp⟩, by decide +kernel, ⟨_, rfl, rfl⟩, by decide +kernel⟩
theorem k_Mo_plainRules_106 : okCV m_Mo_plainRules 106 m_Mo_circle kMo 1 := ⟨Or.inl w_737, mk_Mo_circle, ⟨w_739, ws_Mo_circle⟩, by decide +kernel, ⟨_, rfl, rfl⟩, by decide +kernel⟩
theorem k_Mo_plainRules_77 : okCV m_Mo_plainRules 77 m_Mo_loaded kMo 1 := ⟨Or.inl w_658, mk_Mo_loaded, ⟨w_660, ws_Mo_loaded⟩, by decide +kernel, ⟨_, rfl, rfl⟩, by decide +kernel⟩
theorem k_Mo_plainRules_109 : okCV m_Mo_plainRules 109 m_Mo_callsNothing kMo 1 := ⟨Or.inl w_741, mk_Mo_callsNothing, ⟨w_743, ws_Mo_callsNothing⟩, by decide +kernel, ⟨_, rfl, rfl⟩, by decide +kernel⟩
theorem k_Mo_otherInterfaces_69 : okCV m_Mo_otherInterfaces 69 m_Mo_get kMo 2 := ⟨Or.inl w_666, mk_Mo_get, ⟨w_668, ws_Mo_get⟩, by decide +kernel, ⟨_, rfl, rfl⟩, by decide +kernel⟩
theorem k_Mo_otherFields_69 : okCV m_Mo_otherFields 69 m_Mo_get kMo 2 := ⟨Or.inl w_666, mk_Mo_get, ⟨w_668, ws_Mo_get⟩, by decide +kernel, ⟨_, rfl, rfl⟩, by decide +kernel⟩
theorem k_Mo_moreMethods_69 : okCV m_Mo_moreMethods 69 m_Mo_get kMo 2 := ⟨Or.inl w_666, mk_Mo_get, ⟨w_668, ws_Mo_get⟩, by decide +kernel, ⟨_, rfl, rfl⟩, by decide +kernel⟩
theorem k_Mo_moreMethods_85 : okCS m_Mo_moreMethods 85 m_Mo_methodAt 1 := ⟨Or.inl w_686, mk_Mo_methodAt, w_687, by decide +kernel, by decide +kernel⟩
theorem k_Mo_moreMethods_89 : okCV m_Mo_moreMethods 89 m_Mo_find kMo 2 := ⟨Or.inl w_721, mk_Mo_find, ⟨w_723, ws_Mo_find⟩, by decide +kernel, ⟨_, rfl, rfl⟩, by decide +kernel⟩
theorem k_Mo_otherMethodFlags_69 : okCV m_Mo_otherMethodFlags 69 m_Mo_get kMo 2 := ⟨Or.inl w_666, mk_Mo_get, ⟨w_668, ws_Mo_get⟩, by decide +kernel, ⟨_, rfl, rfl⟩, by decide +kernel⟩
theorem k_Mo_otherMethodFlags_85 : okCS m_Mo_otherMethodFlags 85 m_Mo_methodAt 1 := ⟨Or.inl w_686, mk_Mo_methodAt, w_687, by decide +kernel, by decide +kernel⟩
theorem k_Mo_otherMethodFlags_89 : okCV m_Mo_otherMethodFlags 89 m_Mo_find kMo 2 := ⟨Or.inl w_721, mk_Mo_find, ⟨w_723, ws_Mo_find⟩, by decide +kernel, ⟨_, rfl, rfl⟩, by decide +kernel⟩
theorem k_Mo_rules_112 : okCV m_Mo_rules 112 m_Mo_plainRules kMo 1 := ⟨Or.inl w_725, mk_Mo_plainRules, ⟨w_727, ws_Mo_plainRules⟩, by decide +kernel, ⟨_, rfl, rfl⟩, by decide +kernel⟩
theorem k_Mo_rules_69 : okCV m_Mo_rules 69 m_Mo_get kMo 2 := ⟨Or.inl w_666, mk_Mo_get, ⟨w_668, ws_Mo_get⟩, by decide +kernel, ⟨_, rfl, rfl⟩, by decide +kernel⟩
theorem k_Mo_rules_115 : okCV m_Mo_rules 115 m_Mo_otherInterfaces kMo 2 := ⟨Or.inl w_769, mk_Mo_otherInterfaces, ⟨w_771, ws_Mo_otherInterfaces⟩, by decide +kernel, ⟨_, rfl, rfl⟩, by decide +kernel⟩
theorem k_Mo_rules_119 : okCV m_Mo_rules 119 m_Mo_otherFields kMo 2 := ⟨Or.inl w_773, mk_Mo_otherFields, ⟨w_775, ws_Mo_otherFields⟩, by decide +kernel, ⟨_, rfl, rfl⟩, by decide +kernel⟩
theorem k_Mo_rules_122 : okCV m_Mo_rules 122 m_Mo_moreMethods kMo 2 := ⟨Or.inl w_777, mk_Mo_moreMethods, ⟨w_779, ws_Mo_moreMethods⟩, by decide +kernel, ⟨_, rfl, rfl⟩, by decide +kernel⟩
theorem k_Mo_rules_125 : okCV m_Mo_rules 125 m_Mo_otherMethodFlags kMo 2 := ⟨Or.inl w_781, mk_Mo_otherMethodFlags, ⟨w_783, ws_Mo_otherMethodFlags⟩, by decide +kernel, ⟨_, rfl, rfl⟩, by decide +kernel⟩
theorem k_Mo_inUse_128 : okCV m_Mo_inUse 128 m_Mo_inFrames kMo 1 := ⟨Or.inl w_753, mk_Mo_inFrames, ⟨w_755, ws_Mo_inFrames⟩, by decide +kernel, ⟨_, rfl, rfl⟩, by decide +kernel⟩
theorem k_Mo_renew_131 : okCV m_Mo_renew 131 m_Mo_inUse kMo 1 := ⟨Or.inl w_749, mk_Mo_inUse, ⟨w_751, ws_Mo_inUse⟩, by decide +kernel, ⟨_, rfl, rfl⟩, by decide +kernel⟩
theorem k_Mo_renew_81 : okCV m_Mo_renew 81 m_Mo_transcribe kMo 2 := ⟨Or.inl w_662, mk_Mo_transcribe, ⟨w_664, ws_Mo_transcribe⟩, by decide +kernel, ⟨_, rfl, rfl⟩, by decide +kernel⟩
theorem k_Mo_load_81 : okCV m_Mo_load 81 m_Mo_transcribe kMo 2 := ⟨Or.inl w_662, mk_Mo_transcribe, ⟨w_664, ws_Mo_transcribe⟩, by decide +kernel, ⟨_, rfl, rfl⟩, by decide +kernel⟩
theorem k_Mo_load_69 : okCV m_Mo_load 69 m_Mo_get kMo 2 := ⟨Or.inl w_666, mk_Mo_get, ⟨w_668, ws_Mo_get⟩, by decide +kernel, ⟨_, rfl, rfl⟩, by decide +kernel⟩
theorem k_Mo_load_134 : okCV m_Mo_load 134 m_Mo_treat kMo 3 := ⟨Or.inl w_709, mk_Mo_treat, ⟨w_711, ws_Mo_treat⟩, by decide +kernel, ⟨_, rfl, rfl⟩, by decide +kernel⟩
theorem k_Mo_load_112 : okCV m_Mo_load 112 m_Mo_plainRules kMo 1 := ⟨Or.inl w_725, mk_Mo_plainRules, ⟨w_727, ws_Mo_plainRules⟩, by decide +kernel, ⟨_, rfl, rfl⟩, by decide +kernel⟩
theorem k_Mo_load_77 : okCV m_Mo_load 77 m_Mo_loaded kMo 1 := ⟨Or.inl w_658, mk_Mo_loaded, ⟨w_660, ws_Mo_loaded⟩, by decide +kernel, ⟨_, rfl, rfl⟩, by decide +kernel⟩
theorem k_Mo_load_137 : okCV m_Mo_load 137 m_Mo_renew kMo 2 := ⟨Or.inl w_745, mk_Mo_renew, ⟨w_747, ws_Mo_renew⟩, by decide +kernel, ⟨_, rfl, rfl⟩, by decide +kernel⟩
theorem k_Mo_queue_77 : okCV m_Mo_queue 77 m_Mo_loaded kMo 1 := ⟨Or.inl w_658, mk_Mo_loaded, ⟨w_660, ws_Mo_loaded⟩, by decide +kernel, ⟨_, rfl, rfl⟩, by decide +kernel⟩
theorem k_Mo_queue_81 : okCV m_Mo_queue 81 m_Mo_transcribe kMo 2 := ⟨Or.inl w_662, mk_Mo_transcribe, ⟨w_664, ws_Mo_transcribe⟩, by decide +kernel, ⟨_, rfl, rfl⟩, by decide +kernel⟩
theorem k_Mo_swap_81 : okCV m_Mo_swap 81 m_Mo_transcribe kMo 2 := ⟨Or.inl w_662, mk_Mo_transcribe, ⟨w_664, ws_Mo_transcribe⟩, by decide +kernel, ⟨_, rfl, rfl⟩, by decide +kernel⟩
theorem k_Mo_swap_134 : okCV m_Mo_swap 134 m_Mo_treat kMo 3 := ⟨Or.inl w_709, mk_Mo_treat, ⟨w_711, ws_Mo_treat⟩, by decide +kernel, ⟨_, rfl, rfl⟩, by decide +kernel⟩
theorem k_Mo_swap_143 : okCV m_Mo_swap 143 m_Mo_rules kMo 2 := ⟨Or.inl w_765, mk_Mo_rules, ⟨w_767, ws_Mo_rules⟩, by decide +kernel, ⟨_, rfl, rfl⟩, by decide +kernel⟩
theorem k_Mo_swap_137 : okCV m_Mo_swap 137 m_Mo_renew kMo 2 := ⟨Or.inl w_745, mk_Mo_renew, ⟨w_747, ws_Mo_renew⟩, by decide +kernel, ⟨_, rfl, rfl⟩, by decide +kernel⟩
theorem k_Mo_repeat_77 : okCV m_Mo_repeat 77 m_Mo_loaded kMo 1 := ⟨Or.inl w_658, mk_Mo_loaded, ⟨w_660, ws_Mo_loaded⟩, by decide +kernel, ⟨_, rfl, rfl⟩, by decide +kernel⟩
theorem k_Mo_repeat_81 : okCV m_Mo_repeat 81 m_Mo_transcribe kMo 2 := ⟨Or.inl w_662, mk_Mo_transcribe, ⟨w_664, ws_Mo_transcribe⟩, by decide +kernel, ⟨_, rfl, rfl⟩, by decide +kernel⟩
theorem k_Mo_repeat_95 : okCV m_Mo_repeat 95 m_Mo_changes kMo 3 := ⟨Or.inl w_713, mk_Mo_changes, ⟨w_715, ws_Mo_changes⟩, by decide +kernel, ⟨_, rfl, rfl⟩, by decide +kernel⟩
theorem k_Mo_repeat_143 : okCV m_Mo_repeat 143 m_Mo_rules kMo 2 := ⟨Or.inl w_765, mk_Mo_rules, ⟨w_767, ws_Mo_rules⟩, by decide +kernel, ⟨_, rfl, rfl⟩, by decide +kernel⟩
theorem k_Mo_repeat_137 : okCV m_Mo_repeat 137 m_Mo_renew kMo 2 := ⟨Or.inl w_745, mk_Mo_renew, ⟨w_747, ws_Mo_renew⟩, by decide +kernel, ⟨_, rfl, rfl⟩, by decide +kernel⟩
theorem k_Mo_push_89 : okCV m_Mo_push 89 m_Mo_find kMo 2 := ⟨Or.inl w_721, mk_Mo_find, ⟨w_723, ws_Mo_find⟩, by decide +kernel, ⟨_, rfl, rfl⟩, by decide +kernel⟩
theorem k_Mo_start_146 : okCS m_Mo_start 146 m_Mo_isThread 1 := ⟨Or.inl w_793, mk_Mo_isThread, w_794, by decide +kernel, by decide +kernel⟩
theorem k_Mo_start_77 : okCV m_Mo_start 77 m_Mo_loaded kMo 1 := ⟨Or.inl w_658, mk_Mo_loaded, ⟨w_660, ws_Mo_loaded⟩, by decide +kernel, ⟨_, rfl, rfl⟩, by decide +kernel⟩
theorem k_Mo_start_89 : okCV m_Mo_start 89 m_Mo_find kMo 2 := ⟨Or.inl w_721, mk_Mo_find, ⟨w_723, ws_Mo_find⟩, by decide +kernel, ⟨_, rfl, rfl⟩, by decide +kernel⟩
theorem k_Mo_start_149 : okCV m_Mo_start 149 m_Mo_push kMo 3 := ⟨Or.inl w_796, mk_Mo_push, ⟨w_798, ws_Mo_push⟩, by decide +kernel, ⟨_, rfl, rfl⟩, by decide +kernel⟩
theorem k_Mo_once_69 : okCV m_Mo_once 69 m_Mo_get kMo 2 := ⟨Or.inl w_666, mk_Mo_get, ⟨w_668, ws_Mo_get⟩, by decide +kernel, ⟨_, rfl, rfl⟩, by decide +kernel⟩
theorem k_Mo_once_149 : okCV m_Mo_once 149 m_Mo_push kMo 3 := ⟨Or.inl w_796, mk_Mo_push, ⟨w_798, ws_Mo_push⟩, by decide +kernel, ⟨_, rfl, rfl⟩, by decide +kernel⟩
theorem k_Mo_step_146 : okCS m_Mo_step 146 m_Mo_isThread 1 := ⟨Or.inl w_793, mk_Mo_isThread, w_794, by decide +kernel, by decide +kernel⟩
theorem k_Mo_step_152 : okCV m_Mo_step 152 m_Mo_once kMo 1 := ⟨Or.inl w_804, mk_Mo_once, ⟨w_806, ws_Mo_once⟩, by decide +kernel, ⟨_, rfl, rfl⟩, by decide +kernel⟩
theorem k_Mo_frame_146 : okCS m_Mo_frame 146 m_Mo_isThread 1 := ⟨Or.inl w_793, mk_Mo_isThread, w_794, by decide +kernel, by decide +kernel⟩
theorem k_Mo_result_146 : okCS m_Mo_result 146 m_Mo_isThread 1 := ⟨Or.inl w_793, mk_Mo_isThread, w_794, by decide +kernel, by decide +kernel⟩
theorem k_Mo_edition_77 : okCV m_Mo_edition 77 m_Mo_loaded kMo 1 := ⟨Or.inl w_658, mk_Mo_loaded, ⟨w_660, ws_Mo_loaded⟩, by decide +kernel, ⟨_, rfl, rfl⟩, by decide +kernel⟩
theorem k_Mo_kept_77 : okCV m_Mo_kept 77 m_Mo_loaded kMo 1 := ⟨Or.inl w_658, mk_Mo_loaded, ⟨w_660, ws_Mo_loaded⟩, by decide +kernel, ⟨_, rfl, rfl⟩, by decide +kernel⟩
theorem k_Mo_kept_131 : okCV m_Mo_kept 131 m_Mo_inUse kMo 1 := ⟨Or.inl w_749, mk_Mo_inUse, ⟨w_751, ws_Mo_inUse⟩, by decide +kernel, ⟨_, rfl, rfl⟩, by decide +kernel⟩
theorem k_Cl_init_24 : okCI m_Cl_init 24 m_Fr_init 0 := ⟨Or.inr ⟨"HotEditions", w_192⟩, mk_Fr_init, ⟨w_193, rfl, rfl⟩, by decide +kernel, by decide +kernel⟩
theorem k_Cl_enter_25 : okCV m_Cl_enter 25 m_Sh_find kSh 1 := ⟨Or.inl w_533, mk_Sh_find, ⟨w_267, w_268⟩, by decide +kernel, ⟨_, rfl, rfl⟩, by decide +kernel⟩
theorem k_Cl_enter_37 : okCV m_Cl_enter 37 m_Df_findMethod kDf 1 := ⟨Or.inl w_534, mk_Df_findMethod, ⟨w_365, w_366⟩, by decide +kernel, ⟨_, rfl, rfl⟩, by decide +kernel⟩
theorem k_Cl_enter_52 : okCV m_Cl_enter 52 m_Fr_begin kFr 3 := ⟨Or.inl w_535, mk_Fr_begin, ⟨w_536, w_537⟩, by decide +kernel, ⟨_, rfl, rfl⟩, by decide +kernel⟩
theorem k_Cl_advance_68 : okCV m_Cl_advance 68 m_Cl_leave kCl 1 := ⟨Or.inl w_548, mk_Cl_leave, ⟨w_550, ws_Cl_leave⟩, by decide +kernel, ⟨_, rfl, rfl⟩, by decide +kernel⟩
theorem k_Cl_advance_72 : okCV m_Cl_advance 72 m_Cd_opAt kCd 1 := ⟨Or.inl w_552, mk_Cd_opAt, ⟨w_361, w_362⟩, by decide +kernel, ⟨_, rfl, rfl⟩, by decide +kernel⟩
theorem k_Cl_advance_76 : okCV m_Cl_advance 76 m_Cd_firstOperandAt kCd 1 := ⟨Or.inl w_553, mk_Cd_firstOperandAt, ⟨w_403, w_404⟩, by decide +kernel, ⟨_, rfl, rfl⟩, by decide +kernel⟩
theorem k_Cl_advance_79 : okCV m_Cl_advance 79 m_Cd_secondOperandAt kCd 1 := ⟨Or.inl w_554, mk_Cd_secondOperandAt, ⟨w_407, w_408⟩, by decide +kernel, ⟨_, rfl, rfl⟩, by decide +kernel⟩
theorem k_Cl_advance_82 : okCV m_Cl_advance 82 m_Cl_enter kCl 3 := ⟨Or.inl w_555, mk_Cl_enter, ⟨w_530, w_531⟩, by decide +kernel, ⟨_, rfl, rfl⟩, by decide +kernel⟩
theorem k_Ch_init_17 : okCI m_Ch_init 17 m_Tf_init 0 := ⟨Or.inr ⟨"HotEditions", w_126⟩, mk_Tf_init, ⟨w_127, rfl, rfl⟩, by decide +kernel, by decide +kernel⟩
theorem k_Ch_treat_44 : okCV m_Ch_treat 44 m_Ch_change kCh 3 := ⟨Or.inl w_344, mk_Ch_change, ⟨w_345, w_346⟩, by decide +kernel, ⟨_, rfl, rfl⟩, by decide +kernel⟩
theorem k_Ch_treat_51 : okCV m_Ch_treat 51 m_Df_become kDf 1 := ⟨Or.inl w_372, mk_Df_become, ⟨w_271, w_272⟩, by decide +kernel, ⟨_, rfl, rfl⟩, by decide +kernel⟩
theorem k_Ch_change_57 : okCV m_Ch_change 57 m_Tf_isFor kTf 1 := ⟨Or.inl w_348, mk_Tf_isFor, ⟨w_349, w_350⟩, by decide +kernel, ⟨_, rfl, rfl⟩, by decide +kernel⟩
theorem k_Ch_change_61 : okCV m_Ch_change 61 m_Tf_change kTf 1 := ⟨Or.inl w_352, mk_Tf_change, ⟨w_353, w_354⟩, by decide +kernel, ⟨_, rfl, rfl⟩, by decide +kernel⟩
theorem k_Cd_raiseAdditions_25 : okCV m_Cd_raiseAdditions 25 m_Cd_opAt kCd 1 := ⟨Or.inl w_360, mk_Cd_opAt, ⟨w_361, w_362⟩, by decide +kernel, ⟨_, rfl, rfl⟩, by decide +kernel⟩
theorem k_Df_init_37 : okCI m_Df_init 37 m_Mt_init 0 := ⟨Or.inr ⟨"HotEditions", w_32⟩, mk_Mt_init, ⟨w_33, rfl, rfl⟩, by decide +kernel, by decide +kernel⟩
theorem k_Df_init_38 : okCV m_Df_init 38 m_Df_clear kDf 0 := ⟨Or.inl w_70, mk_Df_clear, ⟨w_71, w_72⟩, by decide +kernel, ⟨_, rfl, rfl⟩, by decide +kernel⟩
theorem k_Df_become_47 : okCV m_Df_become 47 m_Mt_become kMt 1 := ⟨Or.inl w_277, mk_Mt_become, ⟨w_278, w_279⟩, by decide +kernel, ⟨_, rfl, rfl⟩, by decide +kernel⟩
theorem k_Df_addMethod_61 : okCV m_Df_addMethod 61 m_Cd_clear kCd 0 := ⟨Or.inl w_314, mk_Cd_clear, ⟨w_315, w_316⟩, by decide +kernel, ⟨_, rfl, rfl⟩, by decide +kernel⟩
theorem k_Df_hasInterfacesOf_64 : okCV m_Df_hasInterfacesOf 64 m_Df_hasInterface kDf 1 := ⟨Or.inl w_495, mk_Df_hasInterface, ⟨w_496, w_497⟩, by decide +kernel, ⟨_, rfl, rfl⟩, by decide +kernel⟩
theorem k_Df_hasMethodNamesOf_68 : okCV m_Df_hasMethodNamesOf 68 m_Df_findMethod kDf 1 := ⟨Or.inl w_507, mk_Df_findMethod, ⟨w_365, w_366⟩, by decide +kernel, ⟨_, rfl, rfl⟩, by decide +kernel⟩
theorem k_Df_hasMethodFlagsOf_68 : okCV m_Df_hasMethodFlagsOf 68 m_Df_findMethod kDf 1 := ⟨Or.inl w_507, mk_Df_findMethod, ⟨w_365, w_366⟩, by decide +kernel, ⟨_, rfl, rfl⟩, by decide +kernel⟩
theorem k_Fr_init_20 : okCI m_Fr_init 20 m_Cd_init 0 := ⟨Or.inr ⟨"HotEditions", w_197⟩, mk_Cd_init, ⟨w_39, rfl, rfl⟩, by decide +kernel, by decide +kernel⟩
theorem k_Fr_begin_31 : okCV m_Fr_begin 31 m_Cd_become kCd 1 := ⟨Or.inl w_539, mk_Cd_become, ⟨w_282, w_283⟩, by decide +kernel, ⟨_, rfl, rfl⟩, by decide +kernel⟩
theorem k_Lc_init_15 : okCI m_Lc_init 15 m_Df_init 0 := ⟨Or.inl w_428, mk_Df_init, ⟨w_26, rfl, rfl⟩, by decide +kernel, by decide +kernel⟩
theorem k_Lc_addEdition_23 : okCV m_Lc_addEdition 23 m_Df_become kDf 1 := ⟨Or.inl w_450, mk_Df_become, ⟨w_271, w_272⟩, by decide +kernel, ⟨_, rfl, rfl⟩, by decide +kernel⟩
theorem k_Mt_init_18 : okCI m_Mt_init 18 m_Cd_init 0 := ⟨Or.inr ⟨"HotEditions", w_38⟩, mk_Cd_init, ⟨w_39, rfl, rfl⟩, by decide +kernel, by decide +kernel⟩
theorem k_Mt_become_23 : okCV m_Mt_become 23 m_Cd_become kCd 1 := ⟨Or.inl w_281, mk_Cd_become, ⟨w_282, w_283⟩, by decide +kernel, ⟨_, rfl, rfl⟩, by decide +kernel⟩
theorem k_Ru_firstBroken_9 : okCS m_Ru_firstBroken 9 m_Ru_firstBrokenAlone 2 := ⟨Or.inl w_487, mk_Ru_firstBrokenAlone, w_374, by decide +kernel, by decide +kernel⟩
theorem k_Ru_firstBroken_15 : okCS m_Ru_firstBroken 15 m_Ru_firstBrokenBeside 3 := ⟨Or.inl w_488, mk_Ru_firstBrokenBeside, w_489, by decide +kernel, by decide +kernel⟩
theorem k_Ru_firstBrokenAlone_25 : okCV m_Ru_firstBrokenAlone 25 m_Df_hasEqualInterfaces kDf 0 := ⟨Or.inl w_376, mk_Df_hasEqualInterfaces, ⟨w_377, w_378⟩, by decide +kernel, ⟨_, rfl, rfl⟩, by decide +kernel⟩
theorem k_Ru_firstBrokenAlone_29 : okCV m_Ru_firstBrokenAlone 29 m_Df_hasFieldsOfOneName kDf 0 := ⟨Or.inl w_380, mk_Df_hasFieldsOfOneName, ⟨w_381, w_382⟩, by decide +kernel, ⟨_, rfl, rfl⟩, by decide +kernel⟩
theorem k_Ru_firstBrokenAlone_32 : okCV m_Ru_firstBrokenAlone 32 m_Df_hasMethodsOfOneName kDf 0 := ⟨Or.inl w_384, mk_Df_hasMethodsOfOneName, ⟨w_385, w_386⟩, by decide +kernel, ⟨_, rfl, rfl⟩, by decide +kernel⟩
theorem k_Ru_firstBrokenAlone_35 : okCS m_Ru_firstBrokenAlone 35 m_Ru_hasUnknownOp 1 := ⟨Or.inl w_388, mk_Ru_hasUnknownOp, w_389, by decide +kernel, by decide +kernel⟩
theorem k_Ru_firstBrokenAlone_39 : okCS m_Ru_firstBrokenAlone 39 m_Ru_meetsItselfAbove 2 := ⟨Or.inl w_392, mk_Ru_meetsItselfAbove, w_393, by decide +kernel, by decide +kernel⟩
theorem k_Ru_firstBrokenAlone_43 : okCS m_Ru_firstBrokenAlone 43 m_Ru_lacksSuper 2 := ⟨Or.inl w_396, mk_Ru_lacksSuper, w_397, by decide +kernel, by decide +kernel⟩
theorem k_Ru_firstBrokenAlone_46 : okCS m_Ru_firstBrokenAlone 46 m_Ru_lacksCalledMethod 2 := ⟨Or.inl w_399, mk_Ru_lacksCalledMethod, w_400, by decide +kernel, by decide +kernel⟩
theorem k_Ru_firstBrokenBeside_49 : okCV m_Ru_firstBrokenBeside 49 m_Df_hasInterfacesOf kDf 1 := ⟨Or.inl w_491, mk_Df_hasInterfacesOf, ⟨w_492, w_493⟩, by decide +kernel, ⟨_, rfl, rfl⟩, by decide +kernel⟩
theorem k_Ru_firstBrokenBeside_52 : okCV m_Ru_firstBrokenBeside 52 m_Df_hasFieldsOf kDf 1 := ⟨Or.inl w_499, mk_Df_hasFieldsOf, ⟨w_500, w_501⟩, by decide +kernel, ⟨_, rfl, rfl⟩, by decide +kernel⟩
theorem k_Ru_firstBrokenBeside_55 : okCV m_Ru_firstBrokenBeside 55 m_Df_hasMethodNamesOf kDf 1 := ⟨Or.inl w_503, mk_Df_hasMethodNamesOf, ⟨w_504, w_505⟩, by decide +kernel, ⟨_, rfl, rfl⟩, by decide +kernel⟩
theorem k_Ru_firstBrokenBeside_58 : okCV m_Ru_firstBrokenBeside 58 m_Df_hasMethodFlagsOf kDf 1 := ⟨Or.inl w_508, mk_Df_hasMethodFlagsOf, ⟨w_509, w_510⟩, by decide +kernel, ⟨_, rfl, rfl⟩, by decide +kernel⟩
theorem k_Ru_hasUnknownOp_80 : okCV m_Ru_hasUnknownOp 80 m_Cd_opAt kCd 1 := ⟨Or.inl w_391, mk_Cd_opAt, ⟨w_361, w_362⟩, by decide +kernel, ⟨_, rfl, rfl⟩, by decide +kernel⟩
theorem k_Ru_meetsItselfAbove_84 : okCV m_Ru_meetsItselfAbove 84 m_Sh_find kSh 1 := ⟨Or.inl w_395, mk_Sh_find, ⟨w_267, w_268⟩, by decide +kernel, ⟨_, rfl, rfl⟩, by decide +kernel⟩
theorem k_Ru_lacksSuper_84 : okCV m_Ru_lacksSuper 84 m_Sh_find kSh 1 := ⟨Or.inl w_395, mk_Sh_find, ⟨w_267, w_268⟩, by decide +kernel, ⟨_, rfl, rfl⟩, by decide +kernel⟩
theorem k_Ru_lacksCalledMethod_80 : okCV m_Ru_lacksCalledMethod 80 m_Cd_opAt kCd 1 := ⟨Or.inl w_391, mk_Cd_opAt, ⟨w_361, w_362⟩, by decide +kernel, ⟨_, rfl, rfl⟩, by decide +kernel⟩
theorem k_Ru_lacksCalledMethod_96 : okCV m_Ru_lacksCalledMethod 96 m_Cd_firstOperandAt kCd 1 := ⟨Or.inl w_402, mk_Cd_firstOperandAt, ⟨w_403, w_404⟩, by decide +kernel, ⟨_, rfl, rfl⟩, by decide +kernel⟩
theorem k_Ru_lacksCalledMethod_99 : okCV m_Ru_lacksCalledMethod 99 m_Cd_secondOperandAt kCd 1 := ⟨Or.inl w_406, mk_Cd_secondOperandAt, ⟨w_407, w_408⟩, by decide +kernel, ⟨_, rfl, rfl⟩, by decide +kernel⟩
theorem k_Ru_lacksCalledMethod_102 : okCS m_Ru_lacksCalledMethod 102 m_Ru_isCallable 4 := ⟨Or.inl w_410, mk_Ru_isCallable, w_411, by decide +kernel, by decide +kernel⟩
theorem k_Ru_isCallable_106 : okCV m_Ru_isCallable 106 m_Df_findMethod kDf 1 := ⟨Or.inl w_413, mk_Df_findMethod, ⟨w_365, w_366⟩, by decide +kernel, ⟨_, rfl, rfl⟩, by decide +kernel⟩
theorem k_Ru_isCallable_84 : okCV m_Ru_isCallable 84 m_Sh_find kSh 1 := ⟨Or.inl w_395, mk_Sh_find, ⟨w_267, w_268⟩, by decide +kernel, ⟨_, rfl, rfl⟩, by decide +kernel⟩
theorem k_Sh_add_17 : okCS m_Sh_add 17 m_HE_isClass 1 := ⟨Or.inr ⟨"HotEditions", w_421⟩, mk_HE_isClass, w_415, by decide +kernel, by decide +kernel⟩
theorem k_Sh_add_21 : okCI m_Sh_add 21 m_Lc_init 0 := ⟨Or.inr ⟨"HotEditions", w_423⟩, mk_Lc_init, ⟨w_424, rfl, rfl⟩, by decide +kernel, by decide +kernel⟩
theorem k_Sh_add_28 : okCV m_Sh_add 28 m_Lc_addEdition kLc 1 := ⟨Or.inl w_446, mk_Lc_addEdition, ⟨w_447, w_448⟩, by decide +kernel, ⟨_, rfl, rfl⟩, by decide +kernel⟩
theorem k_Sh_add_36 : okCV m_Sh_add 36 m_Df_become kDf 1 := ⟨Or.inl w_451, mk_Df_become, ⟨w_271, w_272⟩, by decide +kernel, ⟨_, rfl, rfl⟩, by decide +kernel⟩
theorem k_Tf_change_43 : okCV m_Tf_change 43 m_Cd_raiseAdditions kCd 1 := ⟨Or.inl w_356, mk_Cd_raiseAdditions, ⟨w_357, w_358⟩, by decide +kernel, ⟨_, rfl, rfl⟩, by decide +kernel⟩
theorem k_Tf_change_53 : okCV m_Tf_change 53 m_Df_findMethod kDf 1 := ⟨Or.inl w_364, mk_Df_findMethod, ⟨w_365, w_366⟩, by decide +kernel, ⟨_, rfl, rfl⟩, by decide +kernel⟩
theorem k_Tf_change_57 : okCS m_Tf_change 57 m_Tf_emptyAllCode 1 := ⟨Or.inl w_368, mk_Tf_emptyAllCode, w_369, by decide +kernel, by decide +kernel⟩
theorem k_Tf_emptyAllCode_64 : okCV m_Tf_emptyAllCode 64 m_Cd_clear kCd 0 := ⟨Or.inl w_371, mk_Cd_clear, ⟨w_315, w_316⟩, by decide +kernel, ⟨_, rfl, rfl⟩, by decide +kernel⟩
theorem k_Tr_init_17 : okCI m_Tr_init 17 m_Df_init 0 := ⟨Or.inl w_163, mk_Df_init, ⟨w_26, rfl, rfl⟩, by decide +kernel, by decide +kernel⟩
theorem k_Tr_take_25 : okCV m_Tr_take 25 m_Df_become kDf 1 := ⟨Or.inl w_339, mk_Df_become, ⟨w_271, w_272⟩, by decide +kernel, ⟨_, rfl, rfl⟩, by decide +kernel⟩
theorem k_Lw_law_9 : okCI m_Lw_law 9 m_HE_init 0 := ⟨Or.inl w_17, mk_HE_init, ⟨w_18, rfl, rfl⟩, by decide +kernel, by decide +kernel⟩
theorem k_Lw_law_12 : okCI m_Lw_law 12 m_Mo_init 0 := ⟨Or.inl w_582, mk_Mo_init, ⟨w_583, rfl, rfl⟩, by decide +kernel, by decide +kernel⟩
theorem k_Lw_law_13 : okCV m_Lw_law 13 m_HE_blank kHE 0 := ⟨Or.inl w_257, mk_HE_blank, ⟨w_258, w_259⟩, by decide +kernel, ⟨_, rfl, rfl⟩, by decide +kernel⟩
theorem k_Lw_law_16 : okCV m_Lw_law 16 m_Mo_blank kMo 0 := ⟨Or.inl w_653, mk_Mo_blank, ⟨w_587, w_588⟩, by decide +kernel, ⟨_, rfl, rfl⟩, by decide +kernel⟩
theorem k_Lw_law_17 : okCV m_Lw_law 17 m_HE_copy kHE 1 := ⟨Or.inl w_262, mk_HE_copy, ⟨w_263, w_264⟩, by decide +kernel, ⟨_, rfl, rfl⟩, by decide +kernel⟩
theorem k_Lw_law_21 : okCV m_Lw_law 21 m_Mo_copy kMo 1 := ⟨Or.inl w_654, mk_Mo_copy, ⟨w_655, w_656⟩, by decide +kernel, ⟨_, rfl, rfl⟩, by decide +kernel⟩
theorem k_Lw_law_22 : okCV m_Lw_law 22 m_HE_set kHE 2 := ⟨Or.inl w_286, mk_HE_set, ⟨w_287, w_288⟩, by decide +kernel, ⟨_, rfl, rfl⟩, by decide +kernel⟩
theorem k_Lw_law_26 : okCV m_Lw_law 26 m_Mo_set kMo 2 := ⟨Or.inl w_670, mk_Mo_set, ⟨w_671, w_672⟩, by decide +kernel, ⟨_, rfl, rfl⟩, by decide +kernel⟩
theorem k_Lw_law_27 : okCV m_Lw_law 27 m_HE_implement kHE 1 := ⟨Or.inl w_290, mk_HE_implement, ⟨w_291, w_292⟩, by decide +kernel, ⟨_, rfl, rfl⟩, by decide +kernel⟩
theorem k_Lw_law_30 : okCV m_Lw_law 30 m_Mo_implement kMo 1 := ⟨Or.inl w_674, mk_Mo_implement, ⟨w_675, w_676⟩, by decide +kernel, ⟨_, rfl, rfl⟩, by decide +kernel⟩
theorem k_Lw_law_31 : okCV m_Lw_law 31 m_HE_field kHE 3 := ⟨Or.inl w_298, mk_HE_field, ⟨w_299, w_300⟩, by decide +kernel, ⟨_, rfl, rfl⟩, by decide +kernel⟩
theorem k_Lw_law_35 : okCV m_Lw_law 35 m_Mo_field kMo 3 := ⟨Or.inl w_678, mk_Mo_field, ⟨w_679, w_680⟩, by decide +kernel, ⟨_, rfl, rfl⟩, by decide +kernel⟩
theorem k_Lw_law_36 : okCV m_Lw_law 36 m_HE_method kHE 2 := ⟨Or.inl w_306, mk_HE_method, ⟨w_307, w_308⟩, by decide +kernel, ⟨_, rfl, rfl⟩, by decide +kernel⟩
theorem k_Lw_law_39 : okCV m_Lw_law 39 m_Mo_method kMo 2 := ⟨Or.inl w_682, mk_Mo_method, ⟨w_683, w_684⟩, by decide +kernel, ⟨_, rfl, rfl⟩, by decide +kernel⟩
theorem k_Lw_law_40 : okCV m_Lw_law 40 m_HE_choose kHE 1 := ⟨Or.inl w_318, mk_HE_choose, ⟨w_319, w_320⟩, by decide +kernel, ⟨_, rfl, rfl⟩, by decide +kernel⟩
theorem k_Lw_law_43 : okCV m_Lw_law 43 m_Mo_choose kMo 1 := ⟨Or.inl w_689, mk_Mo_choose, ⟨w_690, w_691⟩, by decide +kernel, ⟨_, rfl, rfl⟩, by decide +kernel⟩
theorem k_Lw_law_44 : okCV m_Lw_law 44 m_HE_code kHE 3 := ⟨Or.inl w_323, mk_HE_code, ⟨w_324, w_325⟩, by decide +kernel, ⟨_, rfl, rfl⟩, by decide +kernel⟩
theorem k_Lw_law_47 : okCV m_Lw_law 47 m_Mo_code kMo 3 := ⟨Or.inl w_693, mk_Mo_code, ⟨w_694, w_695⟩, by decide +kernel, ⟨_, rfl, rfl⟩, by decide +kernel⟩
theorem k_Lw_law_48 : okCV m_Lw_law 48 m_HE_load kHE 0 := ⟨Or.inl w_331, mk_HE_load, ⟨w_332, w_333⟩, by decide +kernel, ⟨_, rfl, rfl⟩, by decide +kernel⟩
theorem k_Lw_law_52 : okCV m_Lw_law 52 m_Mo_load kMo 0 := ⟨Or.inl w_705, mk_Mo_load, ⟨w_706, w_707⟩, by decide +kernel, ⟨_, rfl, rfl⟩, by decide +kernel⟩
theorem k_Lw_law_53 : okCV m_Lw_law 53 m_HE_transformer kHE 4 := ⟨Or.inl w_452, mk_HE_transformer, ⟨w_453, w_454⟩, by decide +kernel, ⟨_, rfl, rfl⟩, by decide +kernel⟩
theorem k_Lw_law_57 : okCV m_Lw_law 57 m_Mo_transformer kMo 4 := ⟨Or.inl w_697, mk_Mo_transformer, ⟨w_698, w_699⟩, by decide +kernel, ⟨_, rfl, rfl⟩, by decide +kernel⟩
theorem k_Lw_law_58 : okCV m_Lw_law 58 m_HE_remove kHE 1 := ⟨Or.inl w_460, mk_HE_remove, ⟨w_461, w_462⟩, by decide +kernel, ⟨_, rfl, rfl⟩, by decide +kernel⟩
theorem k_Lw_law_61 : okCV m_Lw_law 61 m_Mo_remove kMo 1 := ⟨Or.inl w_701, mk_Mo_remove, ⟨w_702, w_703⟩, by decide +kernel, ⟨_, rfl, rfl⟩, by decide +kernel⟩
theorem k_Lw_law_62 : okCV m_Lw_law 62 m_HE_queue kHE 1 := ⟨Or.inl w_468, mk_HE_queue, ⟨w_469, w_470⟩, by decide +kernel, ⟨_, rfl, rfl⟩, by decide +kernel⟩
theorem k_Lw_law_65 : okCV m_Lw_law 65 m_Mo_queue kMo 1 := ⟨Or.inl w_757, mk_Mo_queue, ⟨w_758, w_759⟩, by decide +kernel, ⟨_, rfl, rfl⟩, by decide +kernel⟩
theorem k_Lw_law_66 : okCV m_Lw_law 66 m_HE_swap kHE 0 := ⟨Or.inl w_476, mk_HE_swap, ⟨w_477, w_478⟩, by decide +kernel, ⟨_, rfl, rfl⟩, by decide +kernel⟩
theorem k_Lw_law_69 : okCV m_Lw_law 69 m_Mo_swap kMo 0 := ⟨Or.inl w_761, mk_Mo_swap, ⟨w_762, w_763⟩, by decide +kernel, ⟨_, rfl, rfl⟩, by decide +kernel⟩
theorem k_Lw_law_70 : okCV m_Lw_law 70 m_HE_repeat kHE 1 := ⟨Or.inl w_517, mk_HE_repeat, ⟨w_518, w_519⟩, by decide +kernel, ⟨_, rfl, rfl⟩, by decide +kernel⟩
theorem k_Lw_law_74 : okCV m_Lw_law 74 m_Mo_repeat kMo 1 := ⟨Or.inl w_785, mk_Mo_repeat, ⟨w_786, w_787⟩, by decide +kernel, ⟨_, rfl, rfl⟩, by decide +kernel⟩
theorem k_Lw_law_75 : okCV m_Lw_law 75 m_HE_start kHE 3 := ⟨Or.inl w_522, mk_HE_start, ⟨w_523, w_524⟩, by decide +kernel, ⟨_, rfl, rfl⟩, by decide +kernel⟩
theorem k_Lw_law_78 : okCV m_Lw_law 78 m_Mo_start kMo 3 := ⟨Or.inl w_789, mk_Mo_start, ⟨w_790, w_791⟩, by decide +kernel, ⟨_, rfl, rfl⟩, by decide +kernel⟩
theorem k_Lw_law_79 : okCV m_Lw_law 79 m_HE_step kHE 2 := ⟨Or.inl w_540, mk_HE_step, ⟨w_541, w_542⟩, by decide +kernel, ⟨_, rfl, rfl⟩, by decide +kernel⟩
theorem k_Lw_law_83 : okCV m_Lw_law 83 m_Mo_step kMo 2 := ⟨Or.inl w_800, mk_Mo_step, ⟨w_801, w_802⟩, by decide +kernel, ⟨_, rfl, rfl⟩, by decide +kernel⟩
theorem k_Lw_law_84 : okCV m_Lw_law 84 m_HE_frame kHE 2 := ⟨Or.inl w_556, mk_HE_frame, ⟨w_557, w_558⟩, by decide +kernel, ⟨_, rfl, rfl⟩, by decide +kernel⟩
theorem k_Lw_law_87 : okCV m_Lw_law 87 m_Mo_frame kMo 2 := ⟨Or.inl w_808, mk_Mo_frame, ⟨w_809, w_810⟩, by decide +kernel, ⟨_, rfl, rfl⟩, by decide +kernel⟩
theorem k_Lw_law_88 : okCV m_Lw_law 88 m_HE_result kHE 1 := ⟨Or.inl w_564, mk_HE_result, ⟨w_565, w_566⟩, by decide +kernel, ⟨_, rfl, rfl⟩, by decide +kernel⟩
theorem k_Lw_law_91 : okCV m_Lw_law 91 m_Mo_result kMo 1 := ⟨Or.inl w_812, mk_Mo_result, ⟨w_813, w_814⟩, by decide +kernel, ⟨_, rfl, rfl⟩, by decide +kernel⟩
theorem k_Lw_law_92 : okCV m_Lw_law 92 m_HE_edition kHE 1 := ⟨Or.inl w_568, mk_HE_edition, ⟨w_569, w_570⟩, by decide +kernel, ⟨_, rfl, rfl⟩, by decide +kernel⟩
theorem k_Lw_law_95 : okCV m_Lw_law 95 m_Mo_edition kMo 1 := ⟨Or.inl w_816, mk_Mo_edition, ⟨w_817, w_818⟩, by decide +kernel, ⟨_, rfl, rfl⟩, by decide +kernel⟩
theorem k_Lw_law_96 : okCV m_Lw_law 96 m_HE_kept kHE 1 := ⟨Or.inl w_572, mk_HE_kept, ⟨w_573, w_574⟩, by decide +kernel, ⟨_, rfl, rfl⟩, by decide +kernel⟩
theorem k_Lw_law_99 : okCV m_Lw_law 99 m_Mo_kept kMo 1 := ⟨Or.inl w_820, mk_Mo_kept, ⟨w_821, w_822⟩, by decide +kernel, ⟨_, rfl, rfl⟩, by decide +kernel⟩
end
